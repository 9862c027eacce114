/** Promises 16 to 24 and 41: songs, new ones, and decades of slips. */
public final class SongsTest {
    public static void main(String[] args) {
        apart();
        bearAndMixed();
        fresh();
        byTurns();
        nearness();
        heardIn();
        strange();
        decadeWithoutSlips();
        decadeWithSlips();
        decadeNumbers();
        Check.end();
    }

    private static void apart() {
        WhalePost x = Check.posted(Check.WORLD);
        Check.granted(x, "apart(0, 1)", x.apart(0, 1), 3);
        Check.granted(x, "apart(2, 0)", x.apart(2, 0), 2);
        Check.granted(x, "apart(1, 1)", x.apart(1, 1), 0);
        Check.granted(x, "apart(0, 3)", x.apart(0, 3), -2);
        Check.refused(x, "apart(0, 4)", x.apart(0, 4), 1);
        Check.refused(x, "apart(-1, 0)", x.apart(-1, 0), 1);
        x.years(10);
        Check.granted(x, "apart(2, 0) in year 10", x.apart(2, 0), 2);
        WhalePost long6 = Check.posted("post notes 4 errors 0 drift 0 slip 0;island a abcdab;island b badcbd");
        Check.granted(long6, "apart(0, 1)", long6.apart(0, 1), 6);
    }

    private static void bearAndMixed() {
        pair("aa", "ab", 0, new int[] {0, 1, 1, 1});
        pair("aa", "bb", 0, new int[] {0, 1, 1, 1});
        pair("aaa", "bbb", 1, new int[] {0, 0, 1, 1});
        pair("aaaa", "bbbb", 1, new int[] {0, 0, 1, 1});
        pair("aaaaa", "bbbbb", 2, new int[] {0, 0, 0, 1});
        pair("aaaaaa", "bbbbbb", 2, new int[] {0, 0, 0, 1});
        pair("aaaaaa", "bbbbb", -2, new int[] {0, 0, 0, 0});
        WhalePost x = Check.posted("post notes 2 errors 1 drift 0 slip 0;island a aaaaa;island b bbbbb;island c aabbb;island d aa");
        Check.granted(x, "bear() of the worst two", x.bear(), 0);
        Check.granted(x, "mixed()", x.mixed(), 1);
        WhalePost none = new WhalePost();
        Check.refused(none, "bear()", none.bear(), 1);
        Check.refused(none, "mixed()", none.mixed(), 1);
    }

    private static void pair(String one, String other, int bear, int[] mixedByErrors) {
        for (int errors = 0; errors <= 3; errors++) {
            WhalePost x = Check.posted("post notes 2 errors " + errors + " drift 0 slip 0;island a " + one + ";island b " + other);
            Check.granted(x, "bear() of " + one + ", " + other, x.bear(), bear);
            Check.granted(x, "mixed() of " + one + ", " + other + " by " + errors, x.mixed(), mixedByErrors[errors]);
        }
    }

    private static void fresh() {
        WhalePost x = Check.posted(Check.WORLD);
        Check.granted(x, "fresh(3, 1)", x.fresh(3, 1), 0);
        Check.granted(x, "fresh(3, 2)", x.fresh(3, 2), 3);
        Check.granted(x, "fresh(2, 1)", x.fresh(2, 1), 0);
        Check.granted(x, "fresh(2, 2)", x.fresh(2, 2), 3);
        Check.granted(x, "fresh(2, 3)", x.fresh(2, 3), -2);
        Check.granted(x, "fresh(4, 5), no such songs", x.fresh(4, 5), 0);
        Check.granted(x, "fresh(5, 5)", x.fresh(5, 5), 0);
        x.years(10);
        Check.granted(x, "fresh(2, 2) from ca", x.fresh(2, 2), 1);
        newSongNumbers(x, 2);
        newSongNumbers(new WhalePost(), 1);
        WhalePost four = Check.posted("post notes 4 errors 0 drift 0 slip 0;island a aaaaa");
        // bbbbb: 1 + 4 + 16 + 64 + 256
        Check.granted(four, "fresh(5, 5)", four.fresh(5, 5), 341);
    }

    private static void newSongNumbers(WhalePost x, int why) {
        int[][] wrong = {{1, 1}, {6, 1}, {2, 0}, {2, 6}, {-1, 1}, {3, -1}, {Integer.MAX_VALUE, 1}};
        for (int[] pair : wrong) {
            Check.refused(x, "fresh(" + pair[0] + ", " + pair[1] + ")", x.fresh(pair[0], pair[1]), why);
            Check.refused(x, "byTurns(" + pair[0] + ", " + pair[1] + ")", x.byTurns(pair[0], pair[1]), why);
        }
    }

    private static void byTurns() {
        WhalePost x = Check.posted(Check.WORLD);
        Check.granted(x, "byTurns(2, 1)", x.byTurns(2, 1), 8);
        // ba, then cc is as far from both as it must be.
        Check.granted(x, "byTurns(2, 2)", x.byTurns(2, 2), 2);
        Check.granted(x, "byTurns(2, 3)", x.byTurns(2, 3), 0);
        Check.granted(x, "byTurns(3, 1)", x.byTurns(3, 1), 24);
        Check.granted(x, "byTurns(4, 5), the first alone", x.byTurns(4, 5), 1);
        Check.granted(x, "byTurns(4, 4)", x.byTurns(4, 4), 3);
        WhalePost two = Check.posted(Check.HEAD + "island a abab");
        // Without songs of that length: those of even weight.
        Check.granted(two, "byTurns(3, 2)", two.byTurns(3, 2), 4);
        Check.granted(two, "byTurns(5, 2)", two.byTurns(5, 2), 16);
        Check.granted(two, "byTurns(5, 3)", two.byTurns(5, 3), 4);
        WhalePost four = Check.posted("post notes 4 errors 0 drift 0 slip 0;island a ab");
        Check.granted(four, "byTurns(5, 1)", four.byTurns(5, 1), 1024);
        Check.granted(four, "byTurns(2, 1)", four.byTurns(2, 1), 15);
    }

    private static void nearness() {
        WhalePost x = Check.posted(Check.WORLD);
        Check.granted(x, "near(0)", x.near(0), 0);
        Check.granted(x, "asNear(0)", x.asNear(0), 1);
        x.tune(0, 0, 1);
        Check.granted(x, "near(0) as bca", x.near(0), 1);
        Check.granted(x, "asNear(0)", x.asNear(0), 1);
        x.tune(0, 2, 2);
        Check.granted(x, "near(0) as bcc", x.near(0), 2);
        Check.granted(x, "asNear(0)", x.asNear(0), 2);
        x.years(20);
        // The songs are bbc, aab, ccc now.
        Check.granted(x, "near(0) in year 20", x.near(0), 1);
        Check.granted(x, "asNear(0) in year 20", x.asNear(0), 2);
        Check.granted(x, "near(1) behind another box's", x.near(1), 1);
        Check.granted(x, "asNear(0) behind another box's", x.asNear(0), 2);
        Check.granted(x, "asNear(2) behind another box's", x.asNear(2), 1);
        Check.refused(x, "near(3)", x.near(3), 1);
        Check.refused(x, "near(-1)", x.near(-1), 1);
        Check.refused(x, "asNear(3)", x.asNear(3), 1);
        Check.refused(x, "asNear(-1)", x.asNear(-1), 1);
    }

    private static void heardIn() {
        WhalePost x = Check.posted(Check.WORLD);
        int[] years = {0, 9, 10, 19, 20, 29, 30, 99};
        int[] want = {1, 1, 0, 0, 2, 2, 1, 1};
        for (int k = 0; k < years.length; k++) {
            Check.granted(x, "heardIn(0, " + years[k] + ")", x.heardIn(0, years[k]), want[k]);
        }
        Check.refused(x, "heardIn(0, -1)", x.heardIn(0, -1), 2);
        Check.refused(x, "heardIn(0, 100)", x.heardIn(0, 100), 2);
        Check.refused(x, "heardIn(3, 100)", x.heardIn(3, 100), 1);
        x.years(5);
        Check.granted(x, "heardIn(0, 4) from year 5", x.heardIn(0, 4), 1);
        Check.granted(x, "heardIn(0, 5) from year 5", x.heardIn(0, 5), 0);
        Check.due("size(9) stays", x.size(9), 5);
        WhalePost none = Check.posted("post notes 2 errors 0 drift 1 slip 0;island a aa;box x from a to a weighs 1 day 0");
        Check.granted(none, "heardIn(0, 1) by nobody", none.heardIn(0, 1), -2);
        Check.granted(none, "heardIn(0, 2)", none.heardIn(0, 2), 0);
    }

    private static void strange() {
        WhalePost x = Check.posted(Check.WORLD);
        Check.granted(x, "strange(0)", x.strange(0), 10);
        x.years(4);
        Check.granted(x, "strange(0) from year 4", x.strange(0), 6);
        x.years(6);
        Check.granted(x, "strange(0) from year 10", x.strange(0), 0);
        x.years(20);
        Check.granted(x, "strange(0) from year 30", x.strange(0), 10);
        Check.refused(x, "strange(4)", x.strange(4), 1);
        Check.refused(x, "strange(-1)", x.strange(-1), 1);
        WhalePost still = Check.posted(Check.HEAD + "island a ab");
        Check.granted(still, "strange(0) without drift", still.strange(0), -2);
        WhalePost deaf = Check.posted("post notes 2 errors 2 drift 1 slip 0;island a ab");
        Check.granted(deaf, "strange(0), heard all the same", deaf.strange(0), -2);
        WhalePost slow = Check.posted("post notes 2 errors 1 drift 50 slip 0;island a ab");
        Check.granted(slow, "strange(0)", slow.strange(0), 50);
    }

    private static void decadeWithoutSlips() {
        WhalePost x = Check.posted(Check.WORLD.replace("slip 50", "slip 0"));
        Check.granted(x, "decade(1, 0)", x.decade(1, 0), 0);
        Check.granted(x, "decade(1, 1)", x.decade(1, 1), 3);
        Check.granted(x, "decade(1, 10)", x.decade(1, 10), 30);
        Check.granted(x, "decade(1, 11)", x.decade(1, 11), 30);
        Check.granted(x, "decade(65536, 50)", x.decade(65536, 50), 60);
        x.years(5);
        Check.granted(x, "decade(0, 10) from year 5", x.decade(0, 10), 15);
        x.send(1, 0);
        Check.granted(x, "decade(0, 10), SENT ones too", x.decade(0, 10), 15);
    }

    private static void decadeWithSlips() {
        // The draws from SEED 0 on: 74, 5624, 28652, 51790, 17641, 12409, ..
        WhalePost x = Check.posted("post notes 2 errors 0 drift 0 slip 75;island a ab;island b ba;box x from a to b weighs 1 day 0");
        // 74 is below 75: place 5624 mod 2, note 28652 mod 2: aa, heard by nobody.
        Check.granted(x, "decade(0, 1)", x.decade(0, 1), 0);
        // 51790 mod 100 is 90, no slip: ba.
        Check.granted(x, "decade(0, 2)", x.decade(0, 2), 1);
        WhalePost y = Check.posted("post notes 2 errors 0 drift 0 slip 74;island a ab;island b ba;box x from a to b weighs 1 day 0");
        // 74 isn't below 74, so the second year draws 5624: 24, then place 28652, note 51790: aa.
        Check.granted(y, "decade(0, 1) by 74", y.decade(0, 1), 1);
        Check.granted(y, "decade(0, 2) by 74", y.decade(0, 2), 1);
        decadeAgainstDraws();
    }

    /** All boxes slip each year in a world without drift; the draws are made here once more. */
    private static void decadeAgainstDraws() {
        WhalePost x = Check.posted("post notes 3 errors 0 drift 0 slip 100;island a abc;island b ba;"
            + "box x from b to a weighs 1 day 0;box y from a to b weighs 1 day 0");
        int[][] song = {{0, 1, 2}, {1, 0}};
        for (int from = 0; from < 65537; from += 5041) {
            long seed = from;
            int same = 0;
            for (int year = 0; year < 50; year++) {
                for (int[] notes : song) {
                    seed = (75 * seed + 74) % 65537;
                    seed = (75 * seed + 74) % 65537;
                    int place = (int) (seed % notes.length);
                    seed = (75 * seed + 74) % 65537;
                    same += notes[place] == seed % 3 ? 1 : 0;
                }
            }
            Check.granted(x, "decade(" + from + ", 50)", x.decade(from, 50), same);
        }
    }

    private static void decadeNumbers() {
        WhalePost x = Check.posted(Check.WORLD);
        Check.refused(x, "decade(-1, 1)", x.decade(-1, 1), 2);
        Check.refused(x, "decade(65537, 1)", x.decade(65537, 1), 2);
        Check.refused(x, "decade(1, -1)", x.decade(1, -1), 2);
        Check.refused(x, "decade(1, 51)", x.decade(1, 51), 2);
        WhalePost none = new WhalePost();
        Check.refused(none, "decade(1, 51)", none.decade(1, 51), 1);
    }
}
