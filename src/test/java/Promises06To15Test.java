/** The boundary cases of promises 6 to 15, a test each. */
public final class Promises06To15Test {
    private static final String TWO = Check.HEAD + "island a ab;island b ba;";
    private static final int LEAST = Integer.MIN_VALUE;
    private static final int MOST = Integer.MAX_VALUE;

    public static void main(String[] args) {
        Promises.test(Promises06To15Test.class, 6, 15);
    }

    // ---- promise 6: whale

    private static void promise06WhaleBelowAndAbove() {
        WhalePost x = Check.posted(Check.WORLD);
        for (int w : new int[] {-1, 4, 5, LEAST, MOST}) {
            Check.refused(x, "whale(" + w + ", 0)", x.whale(w, 0), 1);
        }
        Check.granted(x, "whale(3, 0)", x.whale(3, 0), 3);
    }

    private static void promise06WhatBelowAndAbove() {
        WhalePost x = Check.posted(Check.WORLD);
        for (int what : new int[] {-1, 5, LEAST, MOST}) {
            Check.refused(x, "whale(0, " + what + ")", x.whale(0, what), 1);
        }
        Check.granted(x, "whale(0, 4)", x.whale(0, 4), 10);
    }

    private static void promise06NoWhales() {
        WhalePost x = Check.posted(TWO + "way a b days 1 open 1");
        Check.refused(x, "whale(0, 0)", x.whale(0, 0), 1);
    }

    private static void promise06EachKind() {
        WhalePost x = Check.posted(Check.WORLD);
        for (int w = 0; w < 4; w++) {
            Check.granted(x, "whale(" + w + ", 0)", x.whale(w, 0), w);
        }
    }

    private static void promise06LeastAndMost() {
        WhalePost x = Check.posted(TWO + "whale u cow at b keeps 0 lost 0;whale v cow at b keeps 99 lost 0;whale w cow at a keeps 0 lost 99");
        int[][] want = {{1, 1, 0, 0, 0}, {1, 1, 0, 99, 0}, {1, 0, 0, 0, 99}};
        for (int w = 0; w < 3; w++) {
            for (int what = 0; what < 5; what++) {
                Check.granted(x, "whale(" + w + ", " + what + ")", x.whale(w, what), want[w][what]);
            }
        }
    }

    private static void promise06FreeFromDayZeroOn() {
        WhalePost x = Check.posted(Check.WORLD);
        for (int w = 0; w < 4; w++) {
            Check.granted(x, "whale(" + w + ", 2)", x.whale(w, 2), 0);
        }
    }

    private static void promise06IslandAndDayAreNow() {
        WhalePost x = Check.posted(Check.WORLD);
        x.send(0, 0);
        Check.granted(x, "whale(0, 1)", x.whale(0, 1), 1);
        Check.granted(x, "whale(0, 2), when it has kept it", x.whale(0, 2), 17);
        Check.granted(x, "whale(1, 1), another one's", x.whale(1, 1), 0);
        Check.granted(x, "whale(1, 2), another one's", x.whale(1, 2), 0);
    }

    private static void promise06ASpoutMovesNoWhale() {
        WhalePost x = Check.posted(Check.WORLD);
        Check.granted(x, "whale(1, 1)", x.whale(1, 1), 0);
        Check.granted(x, "whale(3, 1)", x.whale(3, 1), 2);
    }

    // ---- promise 7: box

    private static void promise07BoxBelowAndAbove() {
        WhalePost x = Check.posted(Check.WORLD);
        for (int b : new int[] {-1, 3, 8, LEAST, MOST}) {
            Check.refused(x, "box(" + b + ", 0)", x.box(b, 0), 1);
        }
        Check.granted(x, "box(2, 0)", x.box(2, 0), 1);
    }

    private static void promise07WhatBelowAndAbove() {
        WhalePost x = Check.posted(Check.WORLD);
        for (int what : new int[] {-1, 6, LEAST, MOST}) {
            Check.refused(x, "box(0, " + what + ")", x.box(0, what), 1);
        }
        Check.granted(x, "box(0, 5)", x.box(0, 5), -2);
    }

    private static void promise07NoBoxes() {
        WhalePost x = Check.posted(TWO + "way a b days 1 open 1");
        Check.refused(x, "box(0, 0)", x.box(0, 0), 1);
    }

    private static void promise07LeastAndMost() {
        WhalePost x = Check.posted(TWO + "box p from a to a weighs 1 day 0;box q from b to a weighs 99 day 9999");
        int[][] want = {{0, 0, 1, 0, -2, -2}, {1, 0, 99, 9999, -2, -2}};
        for (int b = 0; b < 2; b++) {
            for (int what = 0; what < 6; what++) {
                Check.granted(x, "box(" + b + ", " + what + ")", x.box(b, what), want[b][what]);
            }
        }
    }

    private static void promise07NotSentIsMinus2() {
        WhalePost x = Check.posted(Check.WORLD);
        Check.refused(x, "send(0, 1)", x.send(0, 1), 5);
        Check.granted(x, "box(1, 4)", x.box(1, 4), -2);
        Check.granted(x, "box(1, 5)", x.box(1, 5), -2);
    }

    private static void promise07ItCameOnDayZero() {
        WhalePost x = Check.posted(TWO + "whale w cow at a keeps 0 lost 0;box p from a to a weighs 1 day 0");
        Check.granted(x, "send(0, 0)", x.send(0, 0), 0);
        Check.granted(x, "box(0, 4)", x.box(0, 4), 0);
        Check.granted(x, "box(0, 5)", x.box(0, 5), 0);
    }

    private static void promise07TheIslandThatGotItIsNotItsOwn() {
        WhalePost x = Check.posted(Check.WORLD);
        x.years(10);
        x.send(1, 1);
        Check.granted(x, "box(1, 1)", x.box(1, 1), 2);
        Check.granted(x, "box(1, 5)", x.box(1, 5), 1);
        x.years(10);
        Check.granted(x, "box(1, 5), years later", x.box(1, 5), 1);
    }

    // ---- promise 8: length

    private static void promise08IslandBelowAndAbove() {
        WhalePost x = Check.posted(Check.WORLD);
        for (int i : new int[] {-1, 4, 7, LEAST, MOST}) {
            Check.refused(x, "length(" + i + ")", x.length(i), 1);
        }
        Check.granted(x, "length(3)", x.length(3), 2);
    }

    private static void promise08TwoToSix() {
        WhalePost x = Check.posted(Check.HEAD + "island a ab;island b aba;island c abab;island d ababa;island e ababab");
        for (int i = 0; i < 5; i++) {
            Check.granted(x, "length(" + i + ")", x.length(i), i + 2);
        }
    }

    // ---- promise 9: note

    private static void promise09IslandBelowAndAbove() {
        WhalePost x = Check.posted(Check.WORLD);
        for (int i : new int[] {-1, 4, LEAST, MOST}) {
            Check.refused(x, "note(" + i + ", 0)", x.note(i, 0), 1);
        }
    }

    private static void promise09NoteBelowAndAbove() {
        WhalePost x = Check.posted(Check.WORLD);
        for (int k : new int[] {-1, 3, 6, LEAST, MOST}) {
            Check.refused(x, "note(0, " + k + ")", x.note(0, k), 1);
        }
        Check.refused(x, "note(3, 2), a shorter song", x.note(3, 2), 1);
        Check.granted(x, "note(3, 1)", x.note(3, 1), 1);
    }

    private static void promise09AllNotesOfTheLongest() {
        notes(Check.posted("post notes 4 errors 0 drift 0 slip 0;island a dcbabd"), 0, "dcbabd");
    }

    private static void promise09NeverIfDriftIsZero() {
        WhalePost x = Check.posted("post notes 4 errors 0 drift 0 slip 0;island a abcd");
        x.years(99);
        notes(x, 0, "abcd");
        x.years(1);
        notes(x, 0, "abcd");
    }

    private static void promise09OneYearShortOfTheDrift() {
        WhalePost x = Check.posted("post notes 4 errors 0 drift 50 slip 0;island a abcd");
        x.years(49);
        notes(x, 0, "abcd");
        x.years(1);
        notes(x, 0, "dabc");
        x.years(49);
        notes(x, 0, "dabc");
        x.years(1);
        notes(x, 0, "cdab");
    }

    private static void promise09BelowAComesTheHighest() {
        for (int notes = 2; notes <= 4; notes++) {
            WhalePost x = Check.posted("post notes " + notes + " errors 0 drift 1 slip 0;island a aab");
            x.years(1);
            char top = (char) ('a' + notes - 1);
            notes(x, 0, "" + top + top + "a");
        }
    }

    private static void promise09AsManyFallsAsNotesIsRound() {
        for (int notes = 2; notes <= 4; notes++) {
            WhalePost x = Check.posted("post notes " + notes + " errors 0 drift 1 slip 0;island a aab");
            x.years(notes);
            notes(x, 0, "aab");
            x.years(notes * 20);
            notes(x, 0, "aab");
        }
    }

    private static void promise09TheLastYear() {
        WhalePost x = Check.posted("post notes 4 errors 0 drift 1 slip 0;island a abcd");
        for (int k = 0; k < 101; k++) {
            x.years(99);
        }
        Check.due("size(9)", x.size(9), 9999);
        // 9,999 is 3 more than a whole number of rounds.
        notes(x, 0, "bcda");
    }

    private static void promise09TuningChangesNoIsland() {
        WhalePost x = Check.posted(Check.WORLD);
        x.tune(0, 0, 0);
        notes(x, 1, "cca");
    }

    // ---- promise 10: sung

    private static void promise10BoxBelowAndAbove() {
        WhalePost x = Check.posted(Check.WORLD);
        for (int b : new int[] {-1, 3, LEAST, MOST}) {
            Check.refused(x, "sung(" + b + ", 0)", x.sung(b, 0), 1);
        }
    }

    private static void promise10NoteBelowAndAbove() {
        WhalePost x = Check.posted(Check.WORLD);
        for (int k : new int[] {-1, 3, 6, LEAST, MOST}) {
            Check.refused(x, "sung(0, " + k + ")", x.sung(0, k), 1);
        }
        Check.granted(x, "sung(0, 2)", x.sung(0, 2), 0);
    }

    private static void promise10ItIsTheSongOfWhereItGoes() {
        WhalePost x = Check.posted(Check.HEAD + "island a ab;island b baa;box p from a to b weighs 1 day 0;box q from b to a weighs 1 day 0");
        Check.granted(x, "sung(0, 0)", x.sung(0, 0), 1);
        Check.granted(x, "sung(0, 2)", x.sung(0, 2), 0);
        Check.granted(x, "sung(1, 1)", x.sung(1, 1), 1);
        Check.refused(x, "sung(1, 2)", x.sung(1, 2), 1);
    }

    private static void promise10ItDoesNotFallWithTheYears() {
        WhalePost x = Check.posted(Check.WORLD);
        x.years(10);
        Check.granted(x, "sung(0, 0)", x.sung(0, 0), 2);
        Check.granted(x, "sung(0, 2)", x.sung(0, 2), 0);
    }

    private static void promise10TunedNotesAlone() {
        WhalePost x = Check.posted("post notes 4 errors 0 drift 0 slip 0;island a abcdab;box p from a to a weighs 1 day 0;box q from a to a weighs 1 day 0");
        x.tune(0, 0, 3);
        x.tune(0, 5, 3);
        int[] want = {3, 1, 2, 3, 0, 3};
        int[] other = {0, 1, 2, 3, 0, 1};
        for (int k = 0; k < 6; k++) {
            Check.granted(x, "sung(0, " + k + ")", x.sung(0, k), want[k]);
            Check.granted(x, "sung(1, " + k + "), another box's", x.sung(1, k), other[k]);
        }
    }

    // ---- promise 11: heard

    private static void promise11BoxBelowAndAbove() {
        WhalePost x = Check.posted(Check.WORLD);
        for (int b : new int[] {-1, 3, LEAST, MOST}) {
            Check.refused(x, "heard(" + b + ")", x.heard(b), 1);
        }
    }

    private static void promise11AsManyWrongAsErrors() {
        for (int errors = 0; errors <= 3; errors++) {
            WhalePost x = Check.posted("post notes 2 errors " + errors + " drift 0 slip 0;island a aaaaaa;island b bb;box p from b to a weighs 1 day 0");
            for (int k = 0; k < errors; k++) {
                x.tune(0, k, 1);
            }
            Check.granted(x, "heard(0), as many as errors", x.heard(0), 0);
            x.tune(0, 5, 1);
            Check.granted(x, "heard(0), one more", x.heard(0), -2);
        }
    }

    private static void promise11TwoAsNearAreNobody() {
        WhalePost x = Check.posted("post notes 2 errors 3 drift 0 slip 0;island a aa;island b bb;box p from a to b weighs 1 day 0");
        Check.granted(x, "heard(0)", x.heard(0), 1);
        x.tune(0, 0, 0);
        Check.granted(x, "heard(0), between both", x.heard(0), -2);
        x.tune(0, 1, 0);
        Check.granted(x, "heard(0), the other one's", x.heard(0), 0);
    }

    private static void promise11ThreeAsNearAreNobody() {
        WhalePost x = Check.posted("post notes 4 errors 3 drift 0 slip 0;island a aa;island b ab;island c ac;box p from a to a weighs 1 day 0");
        x.tune(0, 1, 3);
        Check.granted(x, "heard(0) as ad", x.heard(0), -2);
    }

    private static void promise11ANearerOneBehindATie() {
        WhalePost x = Check.posted("post notes 4 errors 3 drift 0 slip 0;island a aaab;island b aaba;island c aadd;box p from a to a weighs 1 day 0");
        x.tune(0, 2, 3);
        Check.granted(x, "heard(0) as aadb", x.heard(0), -2);
        x.tune(0, 3, 3);
        Check.granted(x, "heard(0) as aadd", x.heard(0), 2);
    }

    private static void promise11ATieOfFartherOnesIsNone() {
        WhalePost x = Check.posted("post notes 3 errors 3 drift 0 slip 0;island a bba;island b bbb;island c aaa;box p from a to c weighs 1 day 0");
        Check.granted(x, "heard(0)", x.heard(0), 2);
        x.tune(0, 2, 2);
        Check.granted(x, "heard(0) as aac", x.heard(0), 2);
    }

    private static void promise11OtherLengthsDoNotHear() {
        WhalePost x = Check.posted("post notes 2 errors 0 drift 0 slip 0;island a aaa;island b bb;box p from b to a weighs 1 day 0");
        x.tune(0, 0, 1);
        x.tune(0, 1, 1);
        x.tune(0, 2, 1);
        Check.granted(x, "heard(0) as bbb", x.heard(0), -2);
    }

    private static void promise11InTheYearNow() {
        WhalePost x = Check.posted("post notes 2 errors 0 drift 5 slip 0;island a ab;island b ba;box p from a to b weighs 1 day 0");
        x.years(4);
        Check.granted(x, "heard(0) in year 4", x.heard(0), 1);
        x.years(1);
        Check.granted(x, "heard(0) in year 5", x.heard(0), 0);
        x.years(5);
        Check.granted(x, "heard(0) in year 10, round", x.heard(0), 1);
    }

    private static void promise11SentItIsHeardAllTheSame() {
        WhalePost x = Check.posted(Check.WORLD);
        x.send(1, 0);
        Check.granted(x, "heard(0)", x.heard(0), 1);
    }

    // ---- promise 12: way

    private static void promise12IslandsBelowAndAbove() {
        WhalePost x = Check.posted(Check.WORLD);
        for (int i : new int[] {-1, 4, LEAST, MOST}) {
            Check.refused(x, "way(" + i + ", 0)", x.way(i, 0), 1);
            Check.refused(x, "way(0, " + i + ")", x.way(0, i), 1);
        }
    }

    private static void promise12OneIslandTwice() {
        WhalePost x = Check.posted(Check.WORLD);
        for (int i = 0; i < 4; i++) {
            Check.refused(x, "way(" + i + ", " + i + ")", x.way(i, i), 1);
        }
    }

    private static void promise12NoWay() {
        WhalePost x = Check.posted(Check.WORLD);
        Check.granted(x, "way(0, 3)", x.way(0, 3), -2);
        Check.granted(x, "way(3, 0)", x.way(3, 0), -2);
    }

    private static void promise12InWhateverOrder() {
        WhalePost x = Check.posted(TWO + "island c aa;way c a days 1 open 1;way a b days 99 open 1");
        Check.granted(x, "way(0, 2)", x.way(0, 2), 1);
        Check.granted(x, "way(2, 0)", x.way(2, 0), 1);
        Check.granted(x, "way(0, 1)", x.way(0, 1), 99);
        Check.granted(x, "way(1, 0)", x.way(1, 0), 99);
    }

    private static void promise12ClosedIsAsNone() {
        WhalePost x = Check.posted(Check.WORLD);
        x.close(2, true);
        Check.granted(x, "way(0, 2)", x.way(0, 2), -2);
        Check.granted(x, "way(2, 0)", x.way(2, 0), -2);
        x.close(2, false);
        Check.granted(x, "way(2, 0) open again", x.way(2, 0), 50);
    }

    private static void promise12TheLastOfTwelve() {
        StringBuilder text = new StringBuilder("post notes 4 errors 0 drift 0 slip 0");
        for (int i = 0; i < 7; i++) {
            text.append(";island i").append((char) ('a' + i)).append(" a").append((char) ('a' + i / 4)).append((char) ('a' + i % 4));
        }
        int[][] ends = {{0, 1}, {0, 2}, {0, 3}, {0, 4}, {0, 5}, {0, 6}, {1, 2}, {1, 3}, {1, 4}, {1, 5}, {1, 6}, {2, 3}};
        for (int k = 0; k < 12; k++) {
            text.append(";way i").append((char) ('a' + ends[k][0])).append(" i").append((char) ('a' + ends[k][1])).append(" days ").append(10 + k).append(" open 1");
        }
        WhalePost x = Check.posted(text.toString());
        for (int k = 0; k < 12; k++) {
            Check.granted(x, "way " + k, x.way(ends[k][0], ends[k][1]), 10 + k);
        }
        x.close(11, true);
        Check.granted(x, "way(2, 3) closed", x.way(2, 3), -2);
        Check.granted(x, "way(1, 6) open", x.way(1, 6), 20);
        Check.refused(x, "close(12, true)", x.close(12, true), 1);
    }

    // ---- promise 13: season

    private static void promise13DayBelowAndAbove() {
        WhalePost x = Check.posted(Check.WORLD);
        for (int day : new int[] {-1, -90, 100000, LEAST, MOST}) {
            Check.refused(x, "season(" + day + ")", x.season(day), 2);
        }
        Check.granted(x, "season(0)", x.season(0), 0);
        Check.granted(x, "season(99999)", x.season(99999), 3);
    }

    private static void promise13FirstAndLastDayOfEach() {
        WhalePost x = Check.posted(Check.WORLD);
        for (int season = 0; season < 4; season++) {
            Check.granted(x, "the first day of " + season, x.season(90 * season), season);
            Check.granted(x, "the last day of " + season, x.season(90 * season + 89), season);
        }
    }

    private static void promise13Round() {
        WhalePost x = Check.posted(Check.WORLD);
        Check.granted(x, "season(359)", x.season(359), 3);
        Check.granted(x, "season(360)", x.season(360), 0);
        Check.granted(x, "season(719)", x.season(719), 3);
        Check.granted(x, "season(720)", x.season(720), 0);
    }

    private static void promise13NoPostAheadOfTheNumber() {
        WhalePost x = new WhalePost();
        Check.refused(x, "season(0)", x.season(0), 1);
        Check.refused(x, "season(-1)", x.season(-1), 1);
        Check.refused(x, "season(100000)", x.season(100000), 1);
    }

    // ---- promise 14: sets

    private static void promise14WhaleBelowAndAbove() {
        WhalePost x = Check.posted(Check.WORLD);
        for (int w : new int[] {-1, 4, LEAST, MOST}) {
            Check.refused(x, "sets(" + w + ", 0, 0)", x.sets(w, 0, 0), 1);
        }
    }

    private static void promise14WayBelowAndAbove() {
        WhalePost x = Check.posted(Check.WORLD);
        for (int way : new int[] {-1, 3, 12, LEAST, MOST}) {
            Check.refused(x, "sets(0, " + way + ", 0)", x.sets(0, way, 0), 1);
        }
    }

    private static void promise14DayBelowAndAbove() {
        WhalePost x = Check.posted(Check.WORLD);
        for (int day : new int[] {-1, 10000, LEAST, MOST}) {
            Check.refused(x, "sets(0, 0, " + day + ")", x.sets(0, 0, day), 2);
            Check.refused(x, "sets(3, 0, " + day + ")", x.sets(3, 0, day), 2);
        }
        Check.granted(x, "sets(0, 0, 0)", x.sets(0, 0, 0), 0);
        Check.granted(x, "sets(0, 0, 9999)", x.sets(0, 0, 9999), 9999);
    }

    private static void promise14NoneSuchAheadOfTheNumber() {
        WhalePost x = Check.posted(Check.WORLD);
        Check.refused(x, "sets(4, 0, -1)", x.sets(4, 0, -1), 1);
        Check.refused(x, "sets(0, 3, 10000)", x.sets(0, 3, 10000), 1);
    }

    private static void promise14ClosedIsMinus2() {
        WhalePost x = Check.posted(Check.WORLD);
        x.close(0, true);
        for (int w = 0; w < 4; w++) {
            Check.granted(x, "sets(" + w + ", 0, 0)", x.sets(w, 0, 0), -2);
        }
        Check.granted(x, "sets(0, 2, 0), another way", x.sets(0, 2, 0), 0);
    }

    private static void promise14ClosedWithAWrongNumber() {
        WhalePost x = Check.posted(Check.WORLD);
        x.close(0, true);
        Check.refused(x, "sets(0, 0, 10000)", x.sets(0, 0, 10000), 2);
    }

    private static void promise14LastDayOfAnOpenSeason() {
        WhalePost x = oneWay(1);
        Check.granted(x, "sets(0, 0, 89)", x.sets(0, 0, 89), 89);
        Check.granted(x, "sets(0, 0, 90)", x.sets(0, 0, 90), 360);
    }

    private static void promise14FirstDayOfAnOpenSeason() {
        WhalePost x = oneWay(2);
        Check.granted(x, "sets(0, 0, 89)", x.sets(0, 0, 89), 90);
        Check.granted(x, "sets(0, 0, 90)", x.sets(0, 0, 90), 90);
    }

    private static void promise14EachSeasonsBit() {
        for (int season = 0; season < 4; season++) {
            WhalePost x = oneWay(1 << season);
            Check.granted(x, "sets(0, 0, 0) in season " + season, x.sets(0, 0, 0), 90 * season);
            Check.granted(x, "sets(0, 0, a day later)", x.sets(0, 0, 90 * season + 90), 360 + 90 * season);
        }
    }

    private static void promise14SeasonsTogether() {
        WhalePost x = oneWay(9);
        Check.granted(x, "sets(0, 0, 89)", x.sets(0, 0, 89), 89);
        Check.granted(x, "sets(0, 0, 90)", x.sets(0, 0, 90), 270);
        Check.granted(x, "sets(0, 0, 359)", x.sets(0, 0, 359), 359);
        Check.granted(x, "sets(0, 0, 360)", x.sets(0, 0, 360), 360);
        WhalePost all = oneWay(15);
        for (int day = 0; day < 400; day += 45) {
            Check.granted(all, "sets(0, 0, " + day + ") in all", all.sets(0, 0, day), day);
        }
    }

    private static void promise14RoundBehindTheLastDay() {
        WhalePost x = oneWay(1);
        // Day 9,999 is in season 3, and the next season 0 begins with day 10,080.
        Check.granted(x, "sets(0, 0, 9999)", x.sets(0, 0, 9999), 10080);
    }

    private static void promise14OldOnesOnAllDays() {
        WhalePost x = Check.posted(TWO + "way a b days 1 open 4;whale w old at a keeps 0 lost 0;whale v calf at a keeps 0 lost 0");
        for (int day : new int[] {0, 89, 90, 180, 359, 9999}) {
            Check.granted(x, "sets(0, 0, " + day + ")", x.sets(0, 0, day), day);
        }
        Check.granted(x, "sets(1, 0, 0), a calf", x.sets(1, 0, 0), 180);
    }

    private static void promise14WhereverTheWhaleIs() {
        WhalePost x = Check.posted(TWO + "island c aa;way a b days 1 open 2;whale w cow at c keeps 0 lost 0");
        Check.granted(x, "sets(0, 0, 5)", x.sets(0, 0, 5), 90);
    }

    // ---- promise 15: sent

    private static void promise15WhatBelowAndAbove() {
        WhalePost x = Check.posted(Check.WORLD);
        for (int what : new int[] {-1, 3, LEAST, MOST}) {
            Check.refused(x, "sent(" + what + ")", x.sent(what), 1);
        }
        Check.granted(x, "sent(2)", x.sent(2), 0);
    }

    private static void promise15NoPost() {
        WhalePost x = new WhalePost();
        for (int what = 0; what < 3; what++) {
            Check.refused(x, "sent(" + what + ")", x.sent(what), 1);
        }
    }

    private static void promise15NoBoxes() {
        sums(Check.posted(Check.HEAD + "island a ab"), 0, 0, 0);
    }

    private static void promise15AllBoxes() {
        StringBuilder text = new StringBuilder(TWO + "way a b days 5 open 15;whale w cow at a keeps 0 lost 0");
        for (int k = 0; k < 8; k++) {
            text.append(";box n").append((char) ('a' + k)).append(" from a to b weighs 1 day ").append(k);
        }
        WhalePost x = Check.posted(text.toString());
        int days = 0;
        for (int b = 0; b < 8; b++) {
            int day = x.send(0, b);
            // There and back again for each but the first.
            Check.due("send(0, " + b + ")", day, 5 + 10 * b);
            days += day - b;
            sums(x, b + 1, b + 1, days);
        }
    }

    private static void promise15AnotherIslandGotIt() {
        WhalePost x = Check.posted(Check.WORLD);
        x.years(10);
        x.send(1, 0);
        sums(x, 1, 0, 0);
    }

    private static void promise15WhatWasUndoneIsNotSent() {
        WhalePost x = Check.posted(Check.WORLD);
        x.send(1, 0);
        sums(x, 1, 1, 10);
        x.undo();
        sums(x, 0, 0, 0);
    }

    // ---- what the tests share

    private static WhalePost oneWay(int open) {
        return Check.posted(TWO + "way a b days 1 open " + open + ";whale w cow at a keeps 0 lost 0");
    }

    private static void notes(WhalePost x, int i, String song) {
        for (int k = 0; k < song.length(); k++) {
            Check.granted(x, "note(" + i + ", " + k + ") in year " + x.size(9), x.note(i, k), song.charAt(k) - 'a');
        }
    }

    private static void sums(WhalePost x, int all, int own, int days) {
        Check.granted(x, "sent(0)", x.sent(0), all);
        Check.granted(x, "sent(1)", x.sent(1), own);
        Check.granted(x, "sent(2)", x.sent(2), days);
    }
}
