/** The boundary cases of promises 35 to 41, a test each. */
public final class Promises35To41Test {
    private static final int LEAST = Integer.MIN_VALUE;
    private static final int MOST = Integer.MAX_VALUE;
    private static final String THREE = Check.HEAD + "island a ab;island b ba;island c bb;";
    private static final String LINE = THREE + "way a b days 5 open 15;way b c days 7 open 15;";
    private static final String COW = LINE + "whale w cow at a keeps 0 lost 0";

    public static void main(String[] args) {
        Promises.test(Promises35To41Test.class, 35, 41);
    }

    // ---- promise 35: fits

    private static void promise35NoPost() {
        WhalePost x = new WhalePost();
        Check.refused(x, "fits()", x.fits(), 1);
    }

    private static void promise35NoWhales() {
        WhalePost x = Check.posted(LINE + "island d aa");
        Check.granted(x, "fits()", x.fits(), 0);
    }

    private static void promise35WithoutSpoutsAllFit() {
        WhalePost x = Check.posted(fiveWhales());
        Check.granted(x, "fits()", x.fits(), 31);
    }

    private static void promise35OnTheVeryDay() {
        fits(1, COW + ";spout w b day 5");
        fits(0, COW + ";spout w b day 4");
        fits(1, COW + ";spout w c day 12");
        fits(0, COW + ";spout w c day 11");
    }

    private static void promise35OnDayZero() {
        fits(1, COW + ";spout w a day 0");
        fits(0, COW + ";spout w b day 0");
    }

    private static void promise35OneBehindTheOther() {
        fits(1, COW + ";spout w b day 20;spout w a day 25");
        fits(0, COW + ";spout w b day 20;spout w a day 24");
        fits(1, COW + ";spout w b day 20;spout w b day 21");
    }

    private static void promise35AMissedOneIsNotMadeGood() {
        fits(0, COW + ";spout w b day 4;spout w b day 9999");
        fits(0, COW + ";spout w b day 4;spout w a day 9999");
    }

    private static void promise35ThereIsNoWay() {
        WhalePost x = Check.posted(COW + ";island d aa;spout w d day 9999");
        Check.granted(x, "fits()", x.fits(), 0);
        WhalePost y = Check.posted(COW + ";spout w c day 9999");
        y.close(1, true);
        Check.granted(y, "fits(), the way is closed", y.fits(), 0);
        y.undo();
        Check.granted(y, "fits(), it is open again", y.fits(), 1);
    }

    private static void promise35EachWhaleByItsOwnSpouts() {
        fits(2, COW + ";whale v cow at b keeps 0 lost 0;spout v a day 5;spout w b day 4;spout v b day 10");
        fits(1, COW + ";whale v cow at b keeps 0 lost 0;spout v a day 4;spout w b day 5");
    }

    private static void promise35ByItsKind() {
        fits(0, COW.replace("w cow", "w bull") + ";spout w b day 9");
        fits(1, COW.replace("w cow", "w bull") + ";spout w b day 10");
        fits(0, COW.replace("w cow", "w calf") + ";spout w c day 9999");
        fits(1, COW.replace("w cow", "w calf") + ";spout w b day 5;spout w c day 12");
        fits(0, COW.replace("open 15", "open 8") + ";spout w b day 274");
        fits(1, COW.replace("open 15", "open 8") + ";spout w b day 275");
        fits(1, COW.replace("open 15", "open 8").replace("w cow", "w old") + ";spout w b day 5");
    }

    private static void promise35FromWhereItWasTold() {
        WhalePost x = Check.posted(COW + ";box p from a to c weighs 1 day 0;spout w b day 5");
        x.send(0, 0);
        Check.granted(x, "fits()", x.fits(), 1);
    }

    // ---- promise 36: reach

    private static void promise36WhaleBelowAndAbove() {
        WhalePost x = Check.posted(Check.WORLD);
        for (int w : new int[] {-1, 4, LEAST, MOST}) {
            Check.refused(x, "reach(" + w + ", 0)", x.reach(w, 0), 1);
            Check.refused(x, "reach(" + w + ", -1)", x.reach(w, -1), 1);
        }
    }

    private static void promise36DayBelowAndAbove() {
        WhalePost x = Check.posted(Check.WORLD);
        for (int day : new int[] {-1, 100000, LEAST, MOST}) {
            Check.refused(x, "reach(0, " + day + ")", x.reach(0, day), 2);
        }
        Check.granted(x, "reach(0, 0)", x.reach(0, 0), 1);
        Check.granted(x, "reach(0, 99999)", x.reach(0, 99999), 7);
    }

    private static void promise36OnTheVeryDay() {
        WhalePost x = Check.posted(COW);
        int[] days = {0, 4, 5, 11, 12};
        int[] want = {1, 1, 3, 3, 7};
        for (int k = 0; k < days.length; k++) {
            Check.granted(x, "reach(0, " + days[k] + ")", x.reach(0, days[k]), want[k]);
        }
    }

    private static void promise36AheadOfItsLastSpoutNowhere() {
        WhalePost x = Check.posted(COW + ";spout w b day 30");
        Check.granted(x, "reach(0, 29)", x.reach(0, 29), 0);
        Check.granted(x, "reach(0, 30)", x.reach(0, 30), 2);
        Check.granted(x, "reach(0, 35)", x.reach(0, 35), 3);
        Check.granted(x, "reach(0, 37)", x.reach(0, 37), 7);
    }

    private static void promise36FromTheLastOfSome() {
        WhalePost x = Check.posted(COW + ";whale v cow at a keeps 0 lost 0;spout w b day 30;spout w c day 50;spout v a day 60");
        Check.granted(x, "reach(0, 49)", x.reach(0, 49), 0);
        Check.granted(x, "reach(0, 50)", x.reach(0, 50), 4);
        Check.granted(x, "reach(1, 60), another one's", x.reach(1, 60), 1);
    }

    private static void promise36WhetherItFitsOrNot() {
        WhalePost x = Check.posted(COW + ";spout w c day 0");
        Check.granted(x, "fits()", x.fits(), 0);
        Check.granted(x, "reach(0, 0)", x.reach(0, 0), 4);
    }

    private static void promise36FromWhereItWasTold() {
        WhalePost x = Check.posted(COW + ";box p from a to c weighs 1 day 0");
        x.send(0, 0);
        Check.granted(x, "reach(0, 0)", x.reach(0, 0), 1);
    }

    private static void promise36TheLastSpoutOfAll() {
        WhalePost x = Check.posted(COW.replace("open 15", "open 1") + ";spout w a day 9999");
        Check.granted(x, "reach(0, 9998)", x.reach(0, 9998), 0);
        Check.granted(x, "reach(0, 9999)", x.reach(0, 9999), 1);
        Check.granted(x, "reach(0, 10084)", x.reach(0, 10084), 1);
        Check.granted(x, "reach(0, 10085)", x.reach(0, 10085), 3);
    }

    private static void promise36ByWaysThatAreNotClosed() {
        WhalePost x = Check.posted(COW);
        x.close(1, true);
        Check.granted(x, "reach(0, 99999)", x.reach(0, 99999), 3);
        x.close(0, true);
        Check.granted(x, "reach(0, 99999)", x.reach(0, 99999), 1);
    }

    private static void promise36SevenIslands() {
        StringBuilder text = new StringBuilder(sevenIslands());
        for (int i = 1; i < 7; i++) {
            text.append(way(0, i).replace("open 1", "open 15"));
        }
        WhalePost x = Check.posted(text + ";whale w cow at ig keeps 0 lost 0");
        Check.granted(x, "reach(0, 0)", x.reach(0, 0), 64);
        Check.granted(x, "reach(0, 1)", x.reach(0, 1), 65);
        Check.granted(x, "reach(0, 2)", x.reach(0, 2), 127);
        Check.granted(x, "pier(1)", x.pier(1), 0);
    }

    private static void promise36ACalfByOneWay() {
        WhalePost x = Check.posted(COW.replace("w cow", "w calf"));
        Check.granted(x, "reach(0, 99999)", x.reach(0, 99999), 3);
    }

    // ---- promise 37: pier

    private static void promise37DayBelowAndAbove() {
        WhalePost x = Check.posted(Check.WORLD);
        for (int day : new int[] {-1, 100000, LEAST, MOST}) {
            Check.refused(x, "pier(" + day + ")", x.pier(day), 2);
        }
        Check.granted(x, "pier(99999)", x.pier(99999), 0);
    }

    private static void promise37NoPostAheadOfTheNumber() {
        WhalePost x = new WhalePost();
        Check.refused(x, "pier(0)", x.pier(0), 1);
        Check.refused(x, "pier(-1)", x.pier(-1), 1);
    }

    private static void promise37NoWhalesTheFirst() {
        WhalePost x = Check.posted(LINE + "island d aa");
        Check.granted(x, "pier(0)", x.pier(0), 0);
        Check.granted(x, "pier(99999)", x.pier(99999), 0);
    }

    private static void promise37OneWhaleIsAsFarFromHalfEverywhere() {
        WhalePost x = Check.posted(LINE + "whale w cow at c keeps 0 lost 0");
        Check.granted(x, "pier(0)", x.pier(0), 0);
    }

    private static void promise37HalfOfTwo() {
        WhalePost x = Check.posted(LINE + "whale v cow at b keeps 0 lost 0;whale w cow at c keeps 0 lost 0");
        // By day: b and c one each; with day 5 a one, too; with day 7 two at b and c.
        Check.granted(x, "pier(0)", x.pier(0), 1);
        Check.granted(x, "pier(4)", x.pier(4), 1);
        Check.granted(x, "pier(5)", x.pier(5), 0);
    }

    private static void promise37HalfOfThree() {
        // One and two are as near to one and a half, none and three aren't.
        WhalePost x = Check.posted(LINE + "whale u cow at c keeps 0 lost 0;whale v cow at c keeps 0 lost 0;whale w cow at b keeps 0 lost 0");
        Check.granted(x, "pier(0)", x.pier(0), 1);
        Check.granted(x, "pier(5)", x.pier(5), 0);
        WhalePost y = Check.posted(LINE + "whale u cow at b keeps 0 lost 0;whale v cow at b keeps 0 lost 0;whale w cow at c keeps 0 lost 0");
        Check.granted(y, "pier(0), two ahead of one", y.pier(0), 1);
    }

    private static void promise37TheFirstOfLikeOnes() {
        WhalePost x = Check.posted(Check.WORLD);
        Check.granted(x, "pier(15)", x.pier(15), 0);
    }

    private static void promise37ASmallerCountThatIsNearer() {
        WhalePost x = Check.posted(THREE + "whale t cow at a keeps 0 lost 0;whale u cow at a keeps 0 lost 0;whale v cow at a keeps 0 lost 0;whale w cow at b keeps 0 lost 0");
        // Three, one, none against two: a and b are as near.
        Check.granted(x, "pier(0)", x.pier(0), 0);
        WhalePost y = Check.posted(THREE + "whale s cow at a keeps 0 lost 0;whale t cow at a keeps 0 lost 0;whale u cow at a keeps 0 lost 0;"
            + "whale v cow at b keeps 0 lost 0;whale w cow at b keeps 0 lost 0;spout w b day 0;spout s c day 9");
        // Two and two against half of four, as s doesn't fit and isn't at a any more.
        Check.granted(y, "pier(0)", y.pier(0), 0);
    }

    private static void promise37OneOfTheIslandsAlways() {
        // None fits and each island has a whale: no island would be nearer.
        WhalePost x = Check.posted(Check.HEAD + "island a ab;island b ba;whale u cow at a keeps 0 lost 0;whale v cow at b keeps 0 lost 0;"
            + "spout u b day 0;spout v a day 0");
        Check.granted(x, "fits()", x.fits(), 0);
        Check.granted(x, "pier(0)", x.pier(0), 0);
    }

    private static void promise37TheLastOfSevenIslands() {
        StringBuilder text = new StringBuilder(sevenIslands());
        for (int i = 0; i < 4; i++) {
            text.append(";whale w").append((char) ('a' + i)).append(" cow at i").append((char) (i < 2 ? 'g' : 'a' + i)).append(" keeps 0 lost 0");
        }
        WhalePost x = Check.posted(text.toString());
        Check.granted(x, "pier(0)", x.pier(0), 6);
    }

    private static void promise37AgainstHalfOfThoseThatFit() {
        WhalePost x = Check.posted(LINE + "whale u cow at a keeps 0 lost 0;whale v cow at a keeps 0 lost 0;spout u c day 0;spout v c day 0");
        // None fits, so the fewest are best; both can be at c.
        Check.granted(x, "fits()", x.fits(), 0);
        Check.granted(x, "pier(0)", x.pier(0), 0);
        WhalePost y = Check.posted(LINE + "whale u cow at c keeps 0 lost 0;whale v cow at c keeps 0 lost 0;spout u a day 0;spout v a day 0");
        Check.granted(y, "fits()", y.fits(), 0);
        Check.granted(y, "pier(0)", y.pier(0), 1);
    }

    // ---- promise 38: watch

    private static void promise38IslandsBelowAndAbove() {
        WhalePost x = Check.posted(Check.WORLD);
        for (int i : new int[] {-1, 4, LEAST, MOST}) {
            Check.refused(x, "watch(" + i + ", 0)", x.watch(i, 0), 1);
            Check.refused(x, "watch(0, " + i + ")", x.watch(0, i), 1);
        }
    }

    private static void promise38OneIslandTwice() {
        WhalePost x = Check.posted(Check.WORLD);
        Check.refused(x, "watch(0, 0)", x.watch(0, 0), 1);
        Check.refused(x, "watch(3, 3)", x.watch(3, 3), 1);
    }

    private static void promise38NoWayIsNothingToWatch() {
        WhalePost x = Check.posted(Check.WORLD);
        Check.granted(x, "watch(0, 3)", x.watch(0, 3), 0);
        WhalePost none = Check.posted(THREE + "island d aa");
        Check.granted(none, "watch(0, 1)", none.watch(0, 1), 0);
    }

    private static void promise38OneWay() {
        WhalePost x = Check.posted(LINE + "island d aa");
        Check.granted(x, "watch(0, 1)", x.watch(0, 1), 1);
        Check.granted(x, "watch(1, 2)", x.watch(1, 2), 2);
        Check.granted(x, "watch(0, 2), the least bits", x.watch(0, 2), 1);
        Check.granted(x, "watch(2, 0)", x.watch(2, 0), 1);
    }

    private static void promise38FewestAheadOfTheLeastBits() {
        WhalePost x = Check.posted(THREE + "island d aa;way a b days 1 open 1;way b c days 1 open 1;way a c days 1 open 1;way c d days 1 open 1");
        Check.granted(x, "watch(0, 3)", x.watch(0, 3), 8);
        Check.granted(x, "watch(0, 2)", x.watch(0, 2), 5);
    }

    private static void promise38ClosedOnesAreNotWatched() {
        WhalePost x = Check.posted(Check.WORLD);
        Check.granted(x, "watch(0, 1)", x.watch(0, 1), 3);
        x.close(0, true);
        Check.granted(x, "watch(0, 1)", x.watch(0, 1), 2);
        x.close(1, true);
        Check.granted(x, "watch(0, 1)", x.watch(0, 1), 0);
        Check.granted(x, "watch(0, 2)", x.watch(0, 2), 4);
    }

    private static void promise38WhateverTheSeason() {
        WhalePost x = Check.posted(THREE + "way a b days 99 open 8");
        Check.granted(x, "watch(0, 1)", x.watch(0, 1), 1);
    }

    private static void promise38ThreeOfTwelve() {
        StringBuilder text = new StringBuilder(sevenIslands());
        // Six ways from the first island, six round the others, so that each of these has three.
        for (int i = 1; i < 7; i++) {
            text.append(way(0, i));
        }
        for (int i = 1; i < 7; i++) {
            text.append(way(i, i % 6 + 1));
        }
        WhalePost x = Check.posted(text.toString());
        Check.granted(x, "watch(0, 1)", x.watch(0, 1), 1 + (1 << 6) + (1 << 11));
        Check.granted(x, "watch(1, 4), the bits at 4 are less", x.watch(1, 4), (1 << 3) + (1 << 8) + (1 << 9));
        Check.granted(x, "watch(6, 3)", x.watch(6, 3), (1 << 2) + (1 << 7) + (1 << 8));
    }

    private static void promise38TheLastWayAlone() {
        StringBuilder text = new StringBuilder(sevenIslands());
        // Eleven ways among the first six islands, the twelfth to the last one.
        int ways = 0;
        for (int i = 0; i < 6; i++) {
            for (int j = 0; j < i && ways < 11; j++) {
                text.append(way(i, j));
                ways++;
            }
        }
        text.append(way(6, 0));
        WhalePost x = Check.posted(text.toString());
        Check.granted(x, "watch(6, 5)", x.watch(6, 5), 1 << 10);
        Check.granted(x, "watch(6, 0)", x.watch(6, 0), 1 << 11);
        Check.granted(x, "watch(6, 1)", x.watch(6, 1), 1 << 11);
    }

    // ---- promises 39 and 40: round

    private static void promise39IslandBelowAndAbove() {
        WhalePost x = Check.posted(Check.WORLD);
        for (int i : new int[] {-1, 4, LEAST, MOST}) {
            Check.refused(x, "round(" + i + ")", x.round(i), 1);
        }
    }

    private static void promise39OneIsland() {
        WhalePost x = Check.posted(Check.HEAD + "island a ab");
        Check.granted(x, "round(0)", x.round(0), 0);
    }

    private static void promise39OneCannotBeReached() {
        WhalePost x = Check.posted(Check.WORLD);
        for (int i = 0; i < 4; i++) {
            Check.granted(x, "round(" + i + ")", x.round(i), -2);
        }
    }

    private static void promise39ClosedWays() {
        WhalePost x = Check.posted(LINE + "way a c days 99 open 1");
        Check.granted(x, "round(0)", x.round(0), 12);
        x.close(0, true);
        Check.granted(x, "round(0)", x.round(0), 106);
        x.close(1, true);
        Check.granted(x, "round(0)", x.round(0), -2);
    }

    private static void promise39WhateverTheSeason() {
        WhalePost x = Check.posted(LINE.replace("open 15", "open 4") + "island d aa;way c d days 1 open 8");
        Check.granted(x, "round(0)", x.round(0), 13);
    }

    private static void promise39NotBackAgain() {
        WhalePost x = Check.posted(LINE + "way a c days 50 open 1");
        Check.granted(x, "round(0)", x.round(0), 12);
        Check.granted(x, "round(1), over a", x.round(1), 17);
        Check.granted(x, "round(2)", x.round(2), 12);
    }

    private static void promise39TheShortestOverOthers() {
        // From a to b it is ten over c, and thirty by the way between them.
        WhalePost x = Check.posted(THREE + "way a b days 30 open 1;way a c days 5 open 1;way c b days 5 open 1");
        Check.granted(x, "round(2)", x.round(2), 15);
        Check.granted(x, "round(0)", x.round(0), 10);
    }

    private static void promise39OverOthersToTheFirst() {
        WhalePost x = Check.posted(THREE + "way a b days 7 open 1;way b c days 5 open 1");
        Check.granted(x, "round(1)", x.round(1), 17);
        order(x, 1, 1, 2, 0);
    }

    private static void promise39ByTheLastOfTwelveWays() {
        StringBuilder text = new StringBuilder(sevenIslands());
        int ways = 0;
        for (int i = 0; i < 6; i++) {
            for (int j = 0; j < i && ways < 11; j++) {
                text.append(way(i, j));
                ways++;
            }
        }
        text.append(way(6, 0).replace("days 1", "days 9"));
        WhalePost x = Check.posted(text.toString());
        // The island behind the eleventh way is gone to and come back from.
        Check.granted(x, "round(6)", x.round(6), 9 + 6);
        x.close(11, true);
        Check.granted(x, "round(6)", x.round(6), -2);
    }

    private static void promise39SevenIslandsAndTheLongestDays() {
        StringBuilder text = new StringBuilder(sevenIslands());
        for (int i = 1; i < 7; i++) {
            text.append(way(0, i).replace("days 1", "days 99"));
        }
        WhalePost x = Check.posted(text.toString());
        Check.granted(x, "round(0)", x.round(0), 11 * 99);
        Check.granted(x, "round(6)", x.round(6), 10 * 99);
    }

    private static void promise40IslandBelowAndAbove() {
        WhalePost x = Check.posted(LINE + "way a c days 50 open 1");
        for (int i : new int[] {-1, 3, LEAST, MOST}) {
            Check.refused(x, "roundAt(" + i + ", 0)", x.roundAt(i, 0), 1);
        }
    }

    private static void promise40PlaceBelowAndAbove() {
        WhalePost x = Check.posted(LINE + "way a c days 50 open 1");
        for (int k : new int[] {-1, 3, 7, LEAST, MOST}) {
            Check.refused(x, "roundAt(0, " + k + ")", x.roundAt(0, k), 1);
        }
        Check.granted(x, "roundAt(0, 0)", x.roundAt(0, 0), 0);
        Check.granted(x, "roundAt(0, 2)", x.roundAt(0, 2), 2);
    }

    private static void promise40ThereIsNone() {
        WhalePost x = Check.posted(Check.WORLD);
        for (int k = 0; k < 4; k++) {
            Check.refused(x, "roundAt(0, " + k + ")", x.roundAt(0, k), 6);
        }
    }

    private static void promise40NoneSuchAheadOfNone() {
        WhalePost x = Check.posted(Check.WORLD);
        Check.refused(x, "roundAt(0, 4)", x.roundAt(0, 4), 1);
        Check.refused(x, "roundAt(4, 0)", x.roundAt(4, 0), 1);
        Check.refused(x, "roundAt(0, -1)", x.roundAt(0, -1), 1);
    }

    private static void promise40OneIsland() {
        WhalePost x = Check.posted(Check.HEAD + "island a ab");
        Check.granted(x, "roundAt(0, 0)", x.roundAt(0, 0), 0);
        Check.refused(x, "roundAt(0, 1)", x.roundAt(0, 1), 1);
    }

    private static void promise40ItselfIsTheFirst() {
        WhalePost x = Check.posted(LINE + "way a c days 50 open 1");
        for (int i = 0; i < 3; i++) {
            Check.granted(x, "roundAt(" + i + ", 0)", x.roundAt(i, 0), i);
        }
    }

    private static void promise40TheFirstByNumbers() {
        StringBuilder text = new StringBuilder(sevenIslands());
        for (int i = 1; i < 7; i++) {
            text.append(way(0, i));
        }
        WhalePost x = Check.posted(text.toString());
        order(x, 0, 0, 1, 2, 3, 4, 5, 6);
        // Over the middle it is as far from each to each.
        order(x, 3, 3, 0, 1, 2, 4, 5, 6);
    }

    private static void promise40FewestDaysAheadOfTheOrder() {
        WhalePost x = Check.posted(THREE + "way a c days 1 open 1;way c b days 1 open 1");
        order(x, 0, 0, 2, 1);
        order(x, 1, 1, 2, 0);
        order(x, 2, 2, 0, 1);
    }

    private static void promise40ClosedWays() {
        WhalePost x = Check.posted(LINE + "way a c days 50 open 1");
        order(x, 0, 0, 1, 2);
        x.close(0, true);
        order(x, 0, 0, 2, 1);
        x.close(2, true);
        Check.refused(x, "roundAt(0, 0)", x.roundAt(0, 0), 6);
    }

    private static void promise40WhateverTheYear() {
        WhalePost x = Check.posted(LINE + "way a c days 50 open 1");
        for (int year = 1; year <= 8; year++) {
            x.years(1);
            order(x, 0, 0, 1, 2);
            Check.granted(x, "round(0)", x.round(0), 12);
            Check.granted(x, "watch(0, 1)", x.watch(0, 1), 3);
        }
    }

    private static void promise40AskedByItselfBehindAnother() {
        WhalePost x = Check.posted(LINE + "way a c days 50 open 1");
        Check.granted(x, "round(0)", x.round(0), 12);
        Check.granted(x, "roundAt(2, 1)", x.roundAt(2, 1), 1);
        Check.granted(x, "roundAt(2, 2)", x.roundAt(2, 2), 0);
        Check.granted(x, "roundAt(1, 1)", x.roundAt(1, 1), 0);
    }

    // ---- promise 41: decade

    private static void promise41SeedBelowAndAbove() {
        WhalePost x = Check.posted(Check.WORLD);
        for (int seed : new int[] {-1, 65537, LEAST, MOST}) {
            Check.refused(x, "decade(" + seed + ", 1)", x.decade(seed, 1), 2);
        }
        Check.due("decade(0, 1) is granted", x.decade(0, 1) >= 0, true);
        Check.due("decade(65536, 1) is granted", x.decade(65536, 1) >= 0, true);
    }

    private static void promise41YearsBelowAndAbove() {
        WhalePost x = Check.posted(Check.WORLD.replace("slip 50", "slip 0"));
        for (int n : new int[] {-1, 51, LEAST, MOST}) {
            Check.refused(x, "decade(0, " + n + ")", x.decade(0, n), 2);
        }
        Check.granted(x, "decade(0, 0)", x.decade(0, 0), 0);
        Check.granted(x, "decade(0, 50)", x.decade(0, 50), 60);
    }

    private static void promise41NoPostAheadOfTheNumbers() {
        WhalePost x = new WhalePost();
        Check.refused(x, "decade(0, 0)", x.decade(0, 0), 1);
        Check.refused(x, "decade(-1, 51)", x.decade(-1, 51), 1);
    }

    private static void promise41NoBoxes() {
        WhalePost x = Check.posted(Check.HEAD.replace("slip 0", "slip 100") + "island a ab");
        Check.granted(x, "decade(7, 50)", x.decade(7, 50), 0);
    }

    private static void promise41NoSlips() {
        WhalePost x = Check.posted(Check.HEAD + "island a ab;box p from a to a weighs 1 day 0");
        for (int seed = 0; seed < 65537; seed += 4096) {
            Check.granted(x, "decade(" + seed + ", 50)", x.decade(seed, 50), 50);
        }
    }

    private static void promise41BelowSlipAndNotAtIt() {
        // The draws from SEED 0 on are 74, 5624, 28652: note 0 at place 0, and aa is heard by nobody.
        String text = "island a ab;island b ba;box p from a to b weighs 1 day 0";
        WhalePost at = Check.posted("post notes 2 errors 0 drift 0 slip 74;" + text);
        Check.granted(at, "decade(0, 1) by 74", at.decade(0, 1), 1);
        WhalePost below = Check.posted("post notes 2 errors 0 drift 0 slip 75;" + text);
        Check.granted(below, "decade(0, 1) by 75", below.decade(0, 1), 0);
    }

    private static void promise41ASeedThatStaysItself() {
        // From SEED 65,536 on the first draw is 65,536 * 75 + 74 mod 65,537, which is 65,536 again: 36.
        String text = "island a ab;island b ba;box p from a to b weighs 1 day 0";
        WhalePost at = Check.posted("post notes 2 errors 0 drift 0 slip 36;" + text);
        Check.granted(at, "decade(65536, 50) by 36", at.decade(65536, 50), 50);
        // Place 65,536 mod 2, note 65,536 mod 2: aa each time.
        WhalePost below = Check.posted("post notes 2 errors 0 drift 0 slip 37;" + text);
        Check.granted(below, "decade(65536, 50) by 37", below.decade(65536, 50), 0);
    }

    private static void promise41TheSameNoteIsNoSlipHeard() {
        // Note 0 at place 0 again and again, where it is 0.
        WhalePost x = Check.posted("post notes 2 errors 0 drift 0 slip 100;island a ab;island b ba;box p from b to a weighs 1 day 0");
        Check.granted(x, "decade(65536, 50)", x.decade(65536, 50), 50);
    }

    private static void promise41ErrorsBearASlip() {
        WhalePost x = Check.posted("post notes 2 errors 1 drift 0 slip 100;island a aaa;box p from a to a weighs 1 day 0");
        Check.granted(x, "decade(0, 50)", x.decade(0, 50), 50);
    }

    private static void promise41NowIsTheFirstYear() {
        WhalePost x = Check.posted("post notes 2 errors 0 drift 5 slip 0;island a ab;box p from a to a weighs 1 day 0");
        Check.granted(x, "decade(0, 5)", x.decade(0, 5), 5);
        Check.granted(x, "decade(0, 6)", x.decade(0, 6), 5);
        Check.granted(x, "decade(0, 10)", x.decade(0, 10), 5);
        Check.granted(x, "decade(0, 11)", x.decade(0, 11), 6);
        x.years(4);
        Check.granted(x, "decade(0, 1) from year 4", x.decade(0, 1), 1);
        Check.granted(x, "decade(0, 2) from year 4", x.decade(0, 2), 1);
        x.years(1);
        Check.granted(x, "decade(0, 5) from year 5", x.decade(0, 5), 0);
    }

    private static void promise41BeyondTheLastYear() {
        WhalePost x = Check.posted("post notes 2 errors 0 drift 1 slip 0;island a ab;box p from a to a weighs 1 day 0");
        for (int k = 0; k < 101; k++) {
            x.years(99);
        }
        Check.granted(x, "decade(0, 50) in year 9,999", x.decade(0, 50), 25);
        Check.granted(x, "decade(0, 1) in year 9,999", x.decade(0, 1), 0);
    }

    private static void promise41PlacesByLengthAndNotesByNotes() {
        String song = "abcdab";
        for (int notes = 2; notes <= 4; notes++) {
            for (int length = 2; length <= 6; length++) {
                StringBuilder sung = new StringBuilder();
                for (int k = 0; k < length; k++) {
                    sung.append((char) ('a' + (song.charAt(k) - 'a') % notes));
                }
                WhalePost x = Check.posted("post notes " + notes + " errors 0 drift 0 slip 100;island a " + sung + ";box p from a to a weighs 1 day 0");
                for (int seed : new int[] {0, 1, 32768, 65535}) {
                    Check.granted(x, "decade(" + seed + ", 50) of " + sung, x.decade(seed, 50), sameNotes(seed, sung.toString(), notes));
                }
            }
        }
    }

    /** In how many of fifty years the note that is sung wrong is the right one. */
    private static int sameNotes(int from, String song, int notes) {
        long seed = from;
        int same = 0;
        for (int year = 0; year < 50; year++) {
            seed = (75 * ((75 * seed + 74) % 65537) + 74) % 65537;
            char right = song.charAt((int) (seed % song.length()));
            seed = (75 * seed + 74) % 65537;
            same += right == 'a' + seed % notes ? 1 : 0;
        }
        return same;
    }

    private static void promise41BoxesByNumbers() {
        // From SEED 0 on: p draws 74, which is no slip, q draws 5624 (24), place 28652 mod 3, note 51790 mod 2.
        WhalePost x = Check.posted("post notes 2 errors 0 drift 0 slip 74;island a ab;island b bbb;"
            + "box p from a to a weighs 1 day 0;box q from a to b weighs 1 day 0");
        Check.granted(x, "decade(0, 1)", x.decade(0, 1), 1);
        WhalePost y = Check.posted("post notes 2 errors 0 drift 0 slip 74;island a ab;island b bbb;"
            + "box p from a to b weighs 1 day 0;box q from a to a weighs 1 day 0");
        // q: place 28652 mod 2 is 0, where note 0 is the right one.
        Check.granted(y, "decade(0, 1)", y.decade(0, 1), 2);
    }

    private static void promise41ByTheIslandOfTheBoxAlone() {
        WhalePost x = Check.posted("post notes 2 errors 0 drift 1 slip 0;island a ab;island b ba;box p from a to b weighs 1 day 0");
        // Every other year the other island hears it.
        Check.granted(x, "decade(0, 50)", x.decade(0, 50), 25);
    }

    private static void promise41NothingIsChanged() {
        WhalePost x = Check.posted("post notes 2 errors 0 drift 1 slip 100;island a ab;island b ba;box p from a to b weighs 1 day 0");
        int first = x.decade(0, 50);
        Check.due("size(9)", x.size(9), 0);
        Check.granted(x, "sung(0, 0)", x.sung(0, 0), 1);
        Check.granted(x, "sung(0, 1)", x.sung(0, 1), 0);
        Check.granted(x, "decade(0, 50) again", x.decade(0, 50), first);
        Check.due("size(10)", x.size(10), 0);
    }

    private static void promise41TunedSongs() {
        WhalePost x = Check.posted("post notes 2 errors 0 drift 0 slip 0;island a ab;box p from a to a weighs 1 day 0");
        x.tune(0, 0, 1);
        Check.granted(x, "decade(0, 50)", x.decade(0, 50), 0);
    }

    private static void promise41SentBoxesToo() {
        WhalePost x = Check.posted("post notes 2 errors 0 drift 0 slip 0;island a ab;whale w cow at a keeps 0 lost 0;box p from a to a weighs 1 day 0");
        x.send(0, 0);
        Check.granted(x, "decade(0, 50)", x.decade(0, 50), 50);
    }

    // ---- what the tests share

    private static void fits(int want, String text) {
        WhalePost x = Check.posted(text);
        Check.granted(x, "fits() of " + text.substring(LINE.length()), x.fits(), want);
    }

    private static void order(WhalePost x, int i, int... order) {
        for (int k = 0; k < order.length; k++) {
            Check.granted(x, "roundAt(" + i + ", " + k + ")", x.roundAt(i, k), order[k]);
        }
    }

    private static String fiveWhales() {
        StringBuilder text = new StringBuilder(LINE.substring(0, LINE.length() - 1));
        for (int w = 0; w < 5; w++) {
            text.append(";whale w").append((char) ('a' + w)).append(" cow at a keeps 0 lost 0");
        }
        return text.toString();
    }

    private static String sevenIslands() {
        StringBuilder text = new StringBuilder("post notes 4 errors 0 drift 0 slip 0");
        for (int i = 0; i < 7; i++) {
            text.append(";island i").append((char) ('a' + i)).append(" a").append((char) ('a' + i / 4)).append((char) ('a' + i % 4));
        }
        return text.toString();
    }

    private static String way(int i, int j) {
        return ";way i" + (char) ('a' + i) + " i" + (char) ('a' + j) + " days 1 open 1";
    }
}
