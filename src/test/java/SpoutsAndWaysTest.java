/** Promises 35 to 40: where whales can be by their spouts, ways to watch, the round on foot. */
public final class SpoutsAndWaysTest {
    private static final String THREE = Check.HEAD + "island a ab;island b ba;island c bb;";

    public static void main(String[] args) {
        fits();
        fitsOneBehindTheOther();
        reach();
        pier();
        pierOfThoseThatDontFit();
        watch();
        round();
        roundOrder();
        Check.end();
    }

    private static void fits() {
        WhalePost x = Check.posted(Check.WORLD);
        Check.granted(x, "fits()", x.fits(), 15);
        x.close(0, true);
        Check.granted(x, "fits(), way 0 closed", x.fits(), 5);
        x.undo();
        x.send(1, 1);
        Check.granted(x, "fits() from where it was told", x.fits(), 15);
        fitsBy("spout cow bo day 10", 15);
        fitsBy("spout cow bo day 9", 13);
        fitsBy("spout cow ada day 0", 15);
        fitsBy("spout cow di day 9999", 13);
        fitsBy("spout cal cy day 49;spout bul ada day 19;spout old ada day 29", 2);
        fitsBy("spout cal cy day 50;spout bul ada day 20;spout old ada day 30", 15);
        WhalePost none = new WhalePost();
        Check.refused(none, "fits()", none.fits(), 1);
    }

    private static void fitsBy(String spouts, int want) {
        WhalePost x = Check.posted(Check.WORLD.substring(0, Check.WORLD.indexOf("spout")) + spouts);
        Check.granted(x, "fits() by " + spouts, x.fits(), want);
    }

    private static void fitsOneBehindTheOther() {
        fitsBy("spout cow bo day 40;spout cow ada day 49", 13);
        fitsBy("spout cow bo day 40;spout cow ada day 50", 15);
        fitsBy("spout cow bo day 40;spout cow ada day 50;spout cow cy day 99", 13);
        fitsBy("spout cow bo day 40;spout cow ada day 50;spout cow cy day 100", 15);
        fitsBy("spout cow bo day 9;spout cow ada day 500", 13);
        fitsBy("spout cow bo day 10;spout cow bo day 11", 15);
        // From bo a calf comes to cy by the way between them alone, from day 90 on.
        fitsBy("spout cal bo day 10;spout cal cy day 109", 14);
        fitsBy("spout cal bo day 10;spout cal cy day 110", 15);
    }

    private static void reach() {
        WhalePost x = Check.posted(Check.WORLD);
        int[][] rows = {{0, 0, 1}, {0, 9, 1}, {0, 10, 3}, {0, 49, 3}, {0, 50, 7}, {1, 0, 0}, {1, 14, 0}, {1, 15, 2}, {1, 24, 2},
            {1, 25, 3}, {1, 74, 3}, {1, 75, 7}, {1, 99999, 7}, {2, 0, 2}, {2, 19, 2}, {2, 20, 3}, {2, 119, 3}, {2, 120, 7},
            {3, 39, 0}, {3, 40, 1}, {3, 49, 1}, {3, 50, 3}, {3, 69, 3}, {3, 70, 7}};
        for (int[] row : rows) {
            Check.granted(x, "reach(" + row[0] + ", " + row[1] + ")", x.reach(row[0], row[1]), row[2]);
        }
        Check.refused(x, "reach(4, 0)", x.reach(4, 0), 1);
        Check.refused(x, "reach(-1, -1)", x.reach(-1, -1), 1);
        Check.refused(x, "reach(0, -1)", x.reach(0, -1), 2);
        Check.refused(x, "reach(0, 100000)", x.reach(0, 100000), 2);
        x.send(0, 0);
        Check.granted(x, "reach(0, 0) from where it was told", x.reach(0, 0), 1);
        x.close(0, true);
        Check.granted(x, "reach(0, 10), way 0 closed", x.reach(0, 10), 1);
        WhalePost twice = Check.posted(Check.WORLD + ";spout cow ada day 60");
        Check.granted(twice, "reach(1, 59) from the last", twice.reach(1, 59), 0);
        Check.granted(twice, "reach(1, 60)", twice.reach(1, 60), 1);
    }

    private static void pier() {
        WhalePost x = Check.posted(Check.WORLD);
        // At ada, bo, cy, di: 1 3 0 0; 2 3 0 0; 4 3 0 0; 4 4 1 0, each against 2.
        Check.granted(x, "pier(15)", x.pier(15), 0);
        Check.granted(x, "pier(20)", x.pier(20), 0);
        Check.granted(x, "pier(40)", x.pier(40), 1);
        Check.granted(x, "pier(50)", x.pier(50), 2);
        Check.refused(x, "pier(-1)", x.pier(-1), 2);
        Check.refused(x, "pier(100000)", x.pier(100000), 2);
        Check.granted(x, "pier(99999)", x.pier(99999), 0);
        WhalePost none = new WhalePost();
        Check.refused(none, "pier(-1)", none.pier(-1), 1);
    }

    /** Two whales fit and one doesn't: all that can REACH an island count, by the document's words. */
    private static void pierOfThoseThatDontFit() {
        WhalePost x = Check.posted(THREE + "way a b days 9 open 15;whale u cow at a keeps 0 lost 0;whale v cow at b keeps 0 lost 0;"
            + "whale w cow at a keeps 0 lost 0;spout w c day 5");
        Check.granted(x, "fits()", x.fits(), 3);
        Check.granted(x, "pier(5)", x.pier(5), 0);
        Check.granted(x, "pier(9)", x.pier(9), 2);
    }

    private static void watch() {
        WhalePost x = Check.posted(Check.WORLD);
        Check.granted(x, "watch(0, 1)", x.watch(0, 1), 3);
        Check.granted(x, "watch(1, 0)", x.watch(1, 0), 3);
        Check.granted(x, "watch(0, 2)", x.watch(0, 2), 5);
        Check.granted(x, "watch(1, 2)", x.watch(1, 2), 3);
        Check.granted(x, "watch(0, 3)", x.watch(0, 3), 0);
        Check.refused(x, "watch(1, 1)", x.watch(1, 1), 1);
        Check.refused(x, "watch(0, 4)", x.watch(0, 4), 1);
        Check.refused(x, "watch(-1, 0)", x.watch(-1, 0), 1);
        x.close(0, true);
        Check.granted(x, "watch(0, 1), way 0 closed", x.watch(0, 1), 2);
        x.close(1, true);
        Check.granted(x, "watch(0, 1), ways closed", x.watch(0, 1), 0);
        // Eleven ways: the direct one and five over another island each, so six must be watched.
        StringBuilder text = new StringBuilder("post notes 4 errors 0 drift 0 slip 0");
        for (int i = 0; i < 7; i++) {
            text.append(";island i").append((char) ('a' + i)).append(" aa").append((char) ('a' + i / 4)).append((char) ('a' + i % 4));
        }
        text.append(";way ia ib days 1 open 1");
        for (int i = 2; i < 7; i++) {
            text.append(";way ib i").append((char) ('a' + i)).append(" days 1 open 1");
            text.append(";way ia i").append((char) ('a' + i)).append(" days 1 open 1");
        }
        WhalePost many = Check.posted(text.toString());
        Check.granted(many, "watch(0, 1)", many.watch(0, 1), 1 | 2 | 8 | 32 | 128 | 512);
        Check.granted(many, "watch(2, 3)", many.watch(2, 3), 2 | 4);
        // One way behind a circle counts for less than two ahead of it, though its bit is higher.
        WhalePost tail = Check.posted(THREE + "island d aa;way a b days 1 open 1;way b c days 1 open 1;way a c days 1 open 1;way c d days 1 open 1");
        Check.granted(tail, "watch(0, 3)", tail.watch(0, 3), 8);
    }

    private static void round() {
        WhalePost x = Check.posted(Check.WORLD);
        Check.granted(x, "round(0), none to di", x.round(0), -2);
        Check.refused(x, "roundAt(0, 0)", x.roundAt(0, 0), 6);
        Check.refused(x, "roundAt(0, 3)", x.roundAt(0, 3), 6);
        Check.refused(x, "roundAt(0, 4)", x.roundAt(0, 4), 1);
        Check.refused(x, "roundAt(4, 0)", x.roundAt(4, 0), 1);
        Check.refused(x, "round(4)", x.round(4), 1);
        Check.refused(x, "round(-1)", x.round(-1), 1);
        WhalePost three = Check.posted(THREE + "way a b days 10 open 1;way b c days 20 open 2;way a c days 50 open 15");
        rounds(three, 0, 30, 0, 1, 2);
        rounds(three, 1, 40, 1, 0, 2);
        rounds(three, 2, 30, 2, 1, 0);
        Check.refused(three, "roundAt(0, 3)", three.roundAt(0, 3), 1);
        Check.refused(three, "roundAt(0, -1)", three.roundAt(0, -1), 1);
        three.close(0, true);
        rounds(three, 0, 70, 0, 2, 1);
        three.close(1, true);
        Check.granted(three, "round(0), ways closed", three.round(0), -2);
        WhalePost one = Check.posted(Check.HEAD + "island a ab");
        rounds(one, 0, 0, 0);
    }

    private static void roundOrder() {
        WhalePost star = Check.posted(THREE + "way c a days 5 open 1;way c b days 5 open 1");
        rounds(star, 2, 15, 2, 0, 1);
        rounds(star, 0, 10, 0, 2, 1);
        rounds(star, 1, 10, 1, 2, 0);
        WhalePost line = Check.posted(THREE + "island d aa;way d b days 1 open 1;way b a days 2 open 1;way a c days 3 open 1");
        rounds(line, 3, 6, 3, 1, 0, 2);
        rounds(line, 2, 6, 2, 0, 1, 3);
        rounds(line, 0, 9, 0, 1, 3, 2);
    }

    private static void rounds(WhalePost x, int i, int days, int... order) {
        Check.granted(x, "round(" + i + ")", x.round(i), days);
        for (int k = 0; k < order.length; k++) {
            Check.granted(x, "roundAt(" + i + ", " + k + ")", x.roundAt(i, k), order[k]);
        }
    }
}
