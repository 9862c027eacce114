/** Promises 6 to 15: what is so now. */
public final class NowTest {
    public static void main(String[] args) {
        whales();
        boxes();
        songs();
        heard();
        ways();
        seasons();
        settingOut();
        sent();
        Check.end();
    }

    private static void whales() {
        WhalePost x = Check.posted(Check.WORLD);
        int[][] want = {{0, 0, 0, 2, 10}, {1, 0, 0, 0, 20}, {2, 1, 0, 5, 5}, {3, 2, 0, 1, 30}};
        for (int w = 0; w < 4; w++) {
            for (int what = 0; what < 5; what++) {
                Check.granted(x, "whale(" + w + ", " + what + ")", x.whale(w, what), want[w][what]);
            }
        }
        Check.refused(x, "whale(4, 0)", x.whale(4, 0), 1);
        Check.refused(x, "whale(-1, 0)", x.whale(-1, 0), 1);
        Check.refused(x, "whale(0, 5)", x.whale(0, 5), 1);
        Check.refused(x, "whale(0, -1)", x.whale(0, -1), 1);
        x.send(3, 0);
        Check.granted(x, "whale(3, 1)", x.whale(3, 1), 1);
        Check.granted(x, "whale(3, 2)", x.whale(3, 2), 41);
    }

    private static void boxes() {
        WhalePost x = Check.posted(Check.WORLD);
        int[][] want = {{0, 1, 2, 5, -2, -2}, {0, 2, 9, 0, -2, -2}, {1, 0, 50, 3, -2, -2}};
        for (int b = 0; b < 3; b++) {
            for (int what = 0; what < 6; what++) {
                Check.granted(x, "box(" + b + ", " + what + ")", x.box(b, what), want[b][what]);
            }
        }
        Check.refused(x, "box(3, 0)", x.box(3, 0), 1);
        Check.refused(x, "box(-1, 0)", x.box(-1, 0), 1);
        Check.refused(x, "box(0, 6)", x.box(0, 6), 1);
        Check.refused(x, "box(0, -1)", x.box(0, -1), 1);
        x.send(2, 2);
        Check.granted(x, "box(2, 4)", x.box(2, 4), 28);
        Check.granted(x, "box(2, 5)", x.box(2, 5), 0);
        Check.granted(x, "box(2, 0) stays", x.box(2, 0), 1);
        Check.granted(x, "box(1, 4)", x.box(1, 4), -2);
    }

    private static void songs() {
        WhalePost x = Check.posted(Check.WORLD);
        int[] lengths = {3, 3, 3, 2};
        for (int i = 0; i < 4; i++) {
            Check.granted(x, "length(" + i + ")", x.length(i), lengths[i]);
        }
        Check.refused(x, "length(4)", x.length(4), 1);
        Check.refused(x, "length(-1)", x.length(-1), 1);
        Check.refused(x, "note(4, 0)", x.note(4, 0), 1);
        Check.refused(x, "note(0, 3)", x.note(0, 3), 1);
        Check.refused(x, "note(0, -1)", x.note(0, -1), 1);
        Check.refused(x, "note(3, 2)", x.note(3, 2), 1);
        notes(x, 0, "aab");
        notes(x, 1, "cca");
        notes(x, 3, "ab");
        x.years(9);
        notes(x, 0, "aab");
        x.years(1);
        notes(x, 0, "cca");
        notes(x, 1, "bbc");
        notes(x, 3, "ca");
        x.years(19);
        notes(x, 0, "bbc");
        x.years(1);
        notes(x, 0, "aab");
        Check.granted(x, "sung(0, 0) is as told", x.sung(0, 0), 2);
        Check.granted(x, "sung(0, 2)", x.sung(0, 2), 0);
        Check.granted(x, "sung(2, 2)", x.sung(2, 2), 1);
        Check.refused(x, "sung(0, 3)", x.sung(0, 3), 1);
        Check.refused(x, "sung(0, -1)", x.sung(0, -1), 1);
        Check.refused(x, "sung(3, 0)", x.sung(3, 0), 1);
        x.tune(0, 1, 1);
        Check.granted(x, "sung(0, 1) tuned", x.sung(0, 1), 1);
        Check.granted(x, "sung(0, 0) stays", x.sung(0, 0), 2);
        Check.granted(x, "note(1, 1) stays", x.note(1, 1), 2);

        WhalePost still = Check.posted("post notes 4 errors 0 drift 0 slip 0;island a abcdda");
        still.years(99);
        notes(still, 0, "abcdda");
    }

    private static void notes(WhalePost x, int i, String song) {
        for (int k = 0; k < song.length(); k++) {
            Check.granted(x, "note(" + i + ", " + k + ") in year " + x.size(9), x.note(i, k), song.charAt(k) - 'a');
        }
    }

    private static void heard() {
        WhalePost x = Check.posted(Check.WORLD);
        Check.granted(x, "heard(0)", x.heard(0), 1);
        Check.granted(x, "heard(1)", x.heard(1), 2);
        Check.granted(x, "heard(2)", x.heard(2), 0);
        Check.refused(x, "heard(3)", x.heard(3), 1);
        Check.refused(x, "heard(-1)", x.heard(-1), 1);
        x.tune(0, 0, 1);
        Check.granted(x, "heard(0) as bca", x.heard(0), 1);
        x.tune(0, 1, 1);
        Check.granted(x, "heard(0) as bba", x.heard(0), 2);
        x.tune(0, 1, 2);
        x.tune(0, 2, 2);
        Check.granted(x, "heard(0) as bcc, as near to two", x.heard(0), -2);
        x.years(10);
        Check.granted(x, "heard(1) in year 10", x.heard(1), 1);
        Check.granted(x, "heard(2) in year 10", x.heard(2), 2);

        WhalePost one = Check.posted("post notes 2 errors 1 drift 0 slip 0;island a aaa;island b ba;box x from a to a weighs 1 day 0");
        Check.granted(one, "heard(0)", one.heard(0), 0);
        one.tune(0, 0, 1);
        Check.granted(one, "heard(0), one wrong", one.heard(0), 0);
        one.tune(0, 1, 1);
        Check.granted(one, "heard(0), two wrong, alone but too far", one.heard(0), -2);
        Check.granted(one, "near(0)", one.near(0), 2);
        Check.granted(one, "asNear(0)", one.asNear(0), 1);
    }

    private static void ways() {
        WhalePost x = Check.posted(Check.WORLD);
        Check.granted(x, "way(0, 1)", x.way(0, 1), 10);
        Check.granted(x, "way(1, 0)", x.way(1, 0), 10);
        Check.granted(x, "way(2, 1)", x.way(2, 1), 20);
        Check.granted(x, "way(0, 2)", x.way(0, 2), 50);
        Check.granted(x, "way(2, 3)", x.way(2, 3), -2);
        Check.refused(x, "way(1, 1)", x.way(1, 1), 1);
        Check.refused(x, "way(0, 4)", x.way(0, 4), 1);
        Check.refused(x, "way(-1, 0)", x.way(-1, 0), 1);
        x.close(1, true);
        Check.granted(x, "way(1, 2) closed", x.way(1, 2), -2);
        Check.granted(x, "way(0, 1) open", x.way(0, 1), 10);
        x.close(1, false);
        Check.granted(x, "way(1, 2) open again", x.way(1, 2), 20);
    }

    private static void seasons() {
        WhalePost x = Check.posted(Check.WORLD);
        int[] days = {0, 89, 90, 179, 180, 269, 270, 359, 360, 450, 99999};
        int[] want = {0, 0, 1, 1, 2, 2, 3, 3, 0, 1, 3};
        for (int k = 0; k < days.length; k++) {
            Check.granted(x, "season(" + days[k] + ")", x.season(days[k]), want[k]);
        }
        Check.refused(x, "season(-1)", x.season(-1), 2);
        Check.refused(x, "season(100000)", x.season(100000), 2);
        WhalePost none = new WhalePost();
        Check.refused(none, "season(-1) without POST", none.season(-1), 1);
    }

    private static void settingOut() {
        WhalePost x = Check.posted(Check.WORLD);
        int[] days = {0, 89, 90, 179, 180, 359, 9999};
        int[] want = {90, 90, 90, 179, 450, 450, 10170};
        for (int k = 0; k < days.length; k++) {
            Check.granted(x, "sets(1, 1, " + days[k] + ")", x.sets(1, 1, days[k]), want[k]);
            Check.granted(x, "sets(0, 1, " + days[k] + ")", x.sets(0, 1, days[k]), want[k]);
            Check.granted(x, "sets(2, 1, " + days[k] + ")", x.sets(2, 1, days[k]), want[k]);
            Check.granted(x, "sets(3, 1, " + days[k] + ")", x.sets(3, 1, days[k]), days[k]);
            Check.granted(x, "sets(1, 0, " + days[k] + ")", x.sets(1, 0, days[k]), days[k]);
        }
        Check.refused(x, "sets(4, 0, 0)", x.sets(4, 0, 0), 1);
        Check.refused(x, "sets(0, 3, 0)", x.sets(0, 3, 0), 1);
        Check.refused(x, "sets(0, -1, 0)", x.sets(0, -1, 0), 1);
        Check.refused(x, "sets(0, 0, -1)", x.sets(0, 0, -1), 2);
        Check.refused(x, "sets(0, 0, 10000)", x.sets(0, 0, 10000), 2);
        Check.refused(x, "sets(4, 0, 10000)", x.sets(4, 0, 10000), 1);
        x.close(0, true);
        Check.granted(x, "sets(1, 0, 5) closed", x.sets(1, 0, 5), -2);
        Check.granted(x, "sets(3, 0, 5) closed", x.sets(3, 0, 5), -2);
        Check.refused(x, "sets(1, 0, -5) closed", x.sets(1, 0, -5), 2);

        WhalePost two = Check.posted(Check.HEAD + "island a ab;island b ba;way a b days 1 open 9;whale w cow at a keeps 0 lost 0");
        Check.granted(two, "sets(0, 0, 89)", two.sets(0, 0, 89), 89);
        Check.granted(two, "sets(0, 0, 90)", two.sets(0, 0, 90), 270);
        Check.granted(two, "sets(0, 0, 359)", two.sets(0, 0, 359), 359);
        Check.granted(two, "sets(0, 0, 360)", two.sets(0, 0, 360), 360);
        WhalePost last = Check.posted(Check.HEAD + "island a ab;island b ba;way a b days 1 open 8;whale w cow at a keeps 0 lost 0");
        Check.granted(last, "sets(0, 0, 360)", last.sets(0, 0, 360), 630);
    }

    private static void sent() {
        WhalePost x = Check.posted(Check.WORLD);
        sums(x, 0, 0, 0);
        x.send(1, 0);
        sums(x, 1, 1, 10);
        x.send(2, 2);
        sums(x, 2, 2, 35);
        x.undo();
        sums(x, 1, 1, 10);
        Check.refused(x, "sent(-1)", x.sent(-1), 1);
        Check.refused(x, "sent(3)", x.sent(3), 1);

        WhalePost late = Check.posted(Check.WORLD);
        late.years(10);
        // The song cca is ada's now, where the box is.
        Check.granted(late, "send(1, 0)", late.send(1, 0), 5);
        sums(late, 1, 0, 0);
        Check.granted(late, "box(0, 5)", late.box(0, 5), 0);
        Check.granted(late, "whale(1, 1)", late.whale(1, 1), 0);
    }

    private static void sums(WhalePost x, int all, int own, int days) {
        Check.granted(x, "sent(0)", x.sent(0), all);
        Check.granted(x, "sent(1)", x.sent(1), own);
        Check.granted(x, "sent(2)", x.sent(2), days);
    }
}
