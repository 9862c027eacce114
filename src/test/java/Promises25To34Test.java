/** The boundary cases of promises 25 to 34, a test each. */
public final class Promises25To34Test {
    private static final int LEAST = Integer.MIN_VALUE;
    private static final int MOST = Integer.MAX_VALUE;
    private static final String TWO = Check.HEAD + "island a ab;island b ba;way a b days 5 open 15;";
    private static final String LINE = Check.HEAD + "island a ab;island b ba;island c bb;way a b days 5 open 15;way b c days 7 open 15;";
    private static final String PAIR = TWO + "whale u cow at a keeps 0 lost 0;whale v cow at b keeps 0 lost 0;";
    private static final String BOX = "box p from a to b weighs 1 day 0";

    public static void main(String[] args) {
        Promises.test(Promises25To34Test.class, 25, 34);
    }

    // ---- promise 25: arrival

    private static void promise25WhaleBelowAndAbove() {
        WhalePost x = Check.posted(Check.WORLD);
        for (int w : new int[] {-1, 4, LEAST, MOST}) {
            Check.refused(x, "arrival(" + w + ", 0, 0, 0)", x.arrival(w, 0, 0, 0), 1);
        }
    }

    private static void promise25IslandsBelowAndAbove() {
        WhalePost x = Check.posted(Check.WORLD);
        for (int i : new int[] {-1, 4, LEAST, MOST}) {
            Check.refused(x, "arrival(0, " + i + ", 0, 0)", x.arrival(0, i, 0, 0), 1);
            Check.refused(x, "arrival(0, 0, " + i + ", 0)", x.arrival(0, 0, i, 0), 1);
        }
    }

    private static void promise25DayBelowAndAbove() {
        WhalePost x = Check.posted(Check.WORLD);
        for (int day : new int[] {-1, 10000, LEAST, MOST}) {
            Check.refused(x, "arrival(0, 0, 1, " + day + ")", x.arrival(0, 0, 1, day), 2);
        }
        Check.granted(x, "arrival(0, 0, 1, 0)", x.arrival(0, 0, 1, 0), 10);
        Check.granted(x, "arrival(0, 0, 1, 9999)", x.arrival(0, 0, 1, 9999), 10009);
    }

    private static void promise25NoneSuchAheadOfTheNumber() {
        WhalePost x = Check.posted(Check.WORLD);
        Check.refused(x, "arrival(4, 0, 0, -1)", x.arrival(4, 0, 0, -1), 1);
        Check.refused(x, "arrival(0, 4, 0, -1)", x.arrival(0, 4, 0, -1), 1);
        Check.refused(x, "arrival(0, 0, 4, 10000)", x.arrival(0, 0, 4, 10000), 1);
    }

    private static void promise25TheSameIslandIsThatDay() {
        WhalePost x = Check.posted(Check.WORLD);
        for (int w = 0; w < 4; w++) {
            Check.granted(x, "arrival(" + w + ", 3, 3, 0)", x.arrival(w, 3, 3, 0), 0);
            Check.granted(x, "arrival(" + w + ", 2, 2, 9999)", x.arrival(w, 2, 2, 9999), 9999);
        }
    }

    private static void promise25Never() {
        WhalePost x = Check.posted(Check.WORLD);
        for (int w = 0; w < 4; w++) {
            Check.granted(x, "arrival(" + w + ", 0, 3, 0)", x.arrival(w, 0, 3, 0), -2);
            Check.granted(x, "arrival(" + w + ", 3, 0, 0)", x.arrival(w, 3, 0, 0), -2);
        }
    }

    private static void promise25NeverByClosedWays() {
        WhalePost x = Check.posted(LINE + "whale u cow at a keeps 0 lost 0;whale o old at a keeps 0 lost 0");
        Check.granted(x, "arrival(0, 0, 2, 0)", x.arrival(0, 0, 2, 0), 12);
        x.close(1, true);
        Check.granted(x, "arrival(0, 0, 2, 0)", x.arrival(0, 0, 2, 0), -2);
        Check.granted(x, "arrival(1, 0, 2, 0), an old one", x.arrival(1, 0, 2, 0), -2);
        Check.granted(x, "arrival(0, 0, 1, 0)", x.arrival(0, 0, 1, 0), 5);
    }

    private static void promise25ACalfByOneWayAtMost() {
        WhalePost x = Check.posted(LINE + "whale w calf at a keeps 0 lost 0");
        Check.granted(x, "arrival(0, 0, 1, 0)", x.arrival(0, 0, 1, 0), 5);
        Check.granted(x, "arrival(0, 0, 2, 0)", x.arrival(0, 0, 2, 0), -2);
        Check.granted(x, "arrival(0, 1, 2, 0)", x.arrival(0, 1, 2, 0), 7);
        Check.granted(x, "arrival(0, 1, 0, 0)", x.arrival(0, 1, 0, 0), 5);
    }

    private static void promise25ACalfTakesTheSlowerWay() {
        WhalePost x = Check.posted(LINE + "way a c days 99 open 15;whale w calf at a keeps 0 lost 0;whale v cow at a keeps 0 lost 0");
        Check.granted(x, "arrival(0, 0, 2, 0)", x.arrival(0, 0, 2, 0), 99);
        Check.granted(x, "arrival(1, 0, 2, 0), a cow", x.arrival(1, 0, 2, 0), 12);
    }

    private static void promise25ACalfWaitsForItsSeason() {
        WhalePost x = Check.posted(TWO.replace("open 15", "open 2") + "whale w calf at a keeps 0 lost 0");
        Check.granted(x, "arrival(0, 0, 1, 0)", x.arrival(0, 0, 1, 0), 95);
    }

    private static void promise25ABullTwiceAsManyDays() {
        WhalePost x = Check.posted(LINE.replace("days 7", "days 99") + "whale w bull at a keeps 0 lost 0");
        Check.granted(x, "arrival(0, 0, 1, 3)", x.arrival(0, 0, 1, 3), 13);
        Check.granted(x, "arrival(0, 0, 2, 0)", x.arrival(0, 0, 2, 0), 208);
    }

    private static void promise25ABullMissesASeasonByADay() {
        String text = LINE.replace("days 7 open 15", "days 7 open 1") + "whale w bull at a keeps 0 lost 0;whale v cow at a keeps 0 lost 0";
        WhalePost x = Check.posted(text);
        Check.granted(x, "arrival(0, 0, 2, 79), there on day 89", x.arrival(0, 0, 2, 79), 103);
        Check.granted(x, "arrival(0, 0, 2, 80), there on day 90", x.arrival(0, 0, 2, 80), 374);
        Check.granted(x, "arrival(1, 0, 2, 84), a cow", x.arrival(1, 0, 2, 84), 96);
        Check.granted(x, "arrival(1, 0, 2, 85), a cow", x.arrival(1, 0, 2, 85), 367);
    }

    private static void promise25OldOnesWaitForNoSeason() {
        WhalePost x = Check.posted(LINE.replace("open 15", "open 4") + "whale w old at a keeps 0 lost 0");
        Check.granted(x, "arrival(0, 0, 2, 0)", x.arrival(0, 0, 2, 0), 12);
        Check.granted(x, "arrival(0, 0, 2, 9999)", x.arrival(0, 0, 2, 9999), 10011);
    }

    private static void promise25TheSeasonMayEndOnTheWay() {
        WhalePost x = Check.posted(TWO.replace("days 5 open 15", "days 99 open 1") + "whale w cow at a keeps 0 lost 0");
        Check.granted(x, "arrival(0, 0, 1, 89)", x.arrival(0, 0, 1, 89), 188);
        Check.granted(x, "arrival(0, 0, 1, 90)", x.arrival(0, 0, 1, 90), 459);
    }

    private static void promise25ALongerWayIsSooner() {
        // The way of one day is shut until day 270; the way round is not.
        WhalePost x = Check.posted(Check.HEAD + "island a ab;island b ba;island c bb;way a c days 1 open 8;way a b days 60 open 15;"
            + "way b c days 60 open 15;whale w cow at a keeps 0 lost 0");
        Check.granted(x, "arrival(0, 0, 2, 0)", x.arrival(0, 0, 2, 0), 120);
        Check.granted(x, "arrival(0, 0, 2, 151)", x.arrival(0, 0, 2, 151), 271);
        Check.granted(x, "arrival(0, 0, 2, 150)", x.arrival(0, 0, 2, 150), 270);
        Check.granted(x, "arrival(0, 0, 2, 152)", x.arrival(0, 0, 2, 152), 271);
    }

    private static void promise25OverAllIslands() {
        // The ways are told from the far end, so that each turn helps by one way only.
        StringBuilder text = new StringBuilder("post notes 4 errors 0 drift 0 slip 0");
        for (int i = 0; i < 7; i++) {
            text.append(";island i").append((char) ('a' + i)).append(" a").append((char) ('a' + i / 4)).append((char) ('a' + i % 4));
        }
        for (int i = 5; i >= 0; i--) {
            text.append(";way i").append((char) ('a' + i)).append(" i").append((char) ('b' + i)).append(" days 10 open 15");
        }
        text.append(";whale w cow at ia keeps 0 lost 0;whale v bull at ia keeps 0 lost 0;whale u old at ia keeps 0 lost 0;whale t calf at ia keeps 0 lost 0");
        WhalePost x = Check.posted(text.toString());
        for (int to = 0; to < 7; to++) {
            Check.granted(x, "arrival(0, 0, " + to + ", 0)", x.arrival(0, 0, to, 0), 10 * to);
            Check.granted(x, "arrival(0, 6, " + to + ", 0)", x.arrival(0, 6, to, 0), 10 * (6 - to));
            Check.granted(x, "arrival(1, 0, " + to + ", 0)", x.arrival(1, 0, to, 0), 20 * to);
            Check.granted(x, "arrival(2, 0, " + to + ", 0)", x.arrival(2, 0, to, 0), 10 * to);
            Check.granted(x, "arrival(3, 0, " + to + ", 0)", x.arrival(3, 0, to, 0), to < 2 ? 10 * to : -2);
        }
    }

    private static void promise25ByTheLastOfTwelveWays() {
        WhalePost x = Check.posted(fullOfWays() + ";whale w cow at ia keeps 0 lost 0;whale v calf at ia keeps 0 lost 0");
        Check.granted(x, "arrival(0, 0, 6, 0)", x.arrival(0, 0, 6, 0), 9);
        Check.granted(x, "arrival(1, 0, 6, 0)", x.arrival(1, 0, 6, 0), 9);
        Check.granted(x, "arrival(0, 6, 5, 0)", x.arrival(0, 6, 5, 0), 14);
        x.close(11, true);
        Check.granted(x, "arrival(0, 0, 6, 0), it is closed", x.arrival(0, 0, 6, 0), -2);
    }

    private static void promise25NoWayIsLeftOfAPostAhead() {
        WhalePost x = Check.posted(LINE + "whale w cow at a keeps 0 lost 0");
        Check.tell(x, LINE + "whale w cow at a keeps 0 lost 0");
        Check.tell(x, LINE.substring(0, LINE.indexOf("way b c")) + "whale w cow at a keeps 0 lost 0");
        Check.granted(x, "arrival(0, 1, 2, 0)", x.arrival(0, 1, 2, 0), -2);
        Check.granted(x, "round(0)", x.round(0), -2);
        Check.granted(x, "watch(0, 2)", x.watch(0, 2), 0);
    }

    private static void promise25OfTheKindWhereverTheWhaleIs() {
        WhalePost x = Check.posted(LINE + "whale w cow at c keeps 50 lost 0;box p from c to c weighs 1 day 999");
        x.send(0, 0);
        Check.granted(x, "arrival(0, 0, 1, 0)", x.arrival(0, 0, 1, 0), 5);
    }

    // ---- promise 26: brings

    private static void promise26NoneSuch() {
        WhalePost x = Check.posted(Check.WORLD);
        for (int k : new int[] {-1, 4, LEAST, MOST}) {
            Check.refused(x, "brings(" + k + ", 0)", x.brings(k, 0), 1);
            Check.refused(x, "brings(0, " + k + ")", x.brings(0, k), 1);
        }
        Check.refused(x, "brings(0, 3)", x.brings(0, 3), 1);
    }

    private static void promise26ACalfCarriesThree() {
        carries("calf", 3, 5);
    }

    private static void promise26ACowCarriesNine() {
        carries("cow", 9, 5);
    }

    private static void promise26AnOldOneCarriesNine() {
        carries("old", 9, 5);
    }

    private static void promise26ABullCarriesAll() {
        WhalePost x = Check.posted(TWO + "whale w bull at a keeps 0 lost 0;box p from a to b weighs 99 day 0");
        Check.granted(x, "brings(0, 0)", x.brings(0, 0), 10);
    }

    private static void promise26ItComesOnTheBoxsDay() {
        for (int day = 4; day <= 6; day++) {
            WhalePost x = Check.posted(TWO + "whale w cow at a keeps 0 lost 0;box p from b to a weighs 1 day " + day);
            Check.granted(x, "brings(0, 0) by day " + day, x.brings(0, 0), Math.max(5, day) + 5);
        }
    }

    private static void promise26TheLastDayOfABox() {
        WhalePost x = Check.posted(TWO.replace("open 15", "open 1") + "whale w cow at a keeps 99 lost 0;box p from a to b weighs 1 day 9999");
        Check.granted(x, "brings(0, 0)", x.brings(0, 0), 10080 + 5 + 99);
    }

    private static void promise26WhereItIsAndWhereItGoesAreOne() {
        for (String kind : new String[] {"calf", "cow", "bull", "old"}) {
            WhalePost x = Check.posted(TWO + "whale w " + kind + " at a keeps 3 lost 0;box p from a to a weighs 1 day 8");
            Check.granted(x, "brings(0, 0)", x.brings(0, 0), 11);
        }
    }

    private static void promise26NoWaysAtAllButThere() {
        WhalePost x = Check.posted(Check.HEAD + "island a ab;whale w calf at a keeps 0 lost 0;box p from a to a weighs 1 day 0");
        Check.granted(x, "brings(0, 0)", x.brings(0, 0), 0);
    }

    private static void promise26KeepsNoneAndMost() {
        for (int keeps : new int[] {0, 1, 99}) {
            WhalePost x = Check.posted(TWO + "whale w cow at a keeps " + keeps + " lost 0;" + BOX);
            Check.granted(x, "brings(0, 0)", x.brings(0, 0), 5 + keeps);
        }
    }

    private static void promise26NotIfItIsSent() {
        WhalePost x = Check.posted(PAIR + BOX);
        x.send(0, 0);
        Check.granted(x, "brings(0, 0)", x.brings(0, 0), -2);
        Check.granted(x, "brings(1, 0)", x.brings(1, 0), -2);
    }

    private static void promise26NotIfNobodyHeardIt() {
        WhalePost x = Check.posted(PAIR + BOX);
        x.tune(0, 0, 0);
        Check.granted(x, "brings(0, 0)", x.brings(0, 0), -2);
    }

    private static void promise26NotIfThereIsNoWayToIt() {
        WhalePost x = Check.posted(PAIR + BOX);
        x.close(0, true);
        Check.granted(x, "brings(0, 0), no way on", x.brings(0, 0), -2);
        Check.granted(x, "brings(1, 0), no way there", x.brings(1, 0), -2);
        x.close(0, false);
        Check.granted(x, "brings(1, 0)", x.brings(1, 0), 10);
    }

    private static void promise26NotIfThereIsNoWayOnWithIt() {
        for (int keeps : new int[] {0, 1, 2, 99}) {
            WhalePost x = Check.posted(LINE + "whale w cow at a keeps " + keeps + " lost 0;box p from b to c weighs 1 day 0");
            x.close(1, true);
            Check.granted(x, "brings(0, 0)", x.brings(0, 0), -2);
        }
    }

    private static void promise26ToTheIslandThatHeardIt() {
        WhalePost x = Check.posted(LINE.replace("drift 0", "drift 1") + "whale w cow at b keeps 0 lost 0;box p from b to a weighs 1 day 0");
        Check.granted(x, "brings(0, 0) in year 0, to a", x.brings(0, 0), 5);
        x.years(1);
        // The songs are ba, ab and aa now: the box is where it is heard.
        Check.granted(x, "brings(0, 0) in year 1, at b", x.brings(0, 0), 0);
    }

    private static void promise26FromTheDayOnWhichItIsFree() {
        WhalePost x = Check.posted(TWO + "whale w cow at a keeps 20 lost 0;box p from a to b weighs 1 day 0;box q from b to a weighs 1 day 24;"
            + "box r from b to a weighs 1 day 26");
        x.send(0, 0);
        Check.granted(x, "whale(0, 2)", x.whale(0, 2), 25);
        Check.granted(x, "brings(0, 1), a day ahead", x.brings(0, 1), 50);
        Check.granted(x, "brings(0, 2), a day later", x.brings(0, 2), 51);
    }

    private static void promise26ABullTwiceAsManyDaysThereAndOn() {
        for (char at = 'a'; at <= 'c'; at++) {
            WhalePost x = Check.posted(LINE + "whale w bull at " + at + " keeps 0 lost 0;box p from b to c weighs 1 day 0");
            int comes = at == 'a' ? 10 : at == 'b' ? 0 : 14;
            Check.granted(x, "brings(0, 0) from " + at, x.brings(0, 0), comes + 14);
        }
    }

    private static void promise26AnOldOneInNoSeasonThereAndOn() {
        WhalePost x = Check.posted(LINE.replace("open 15", "open 8") + "whale w old at a keeps 0 lost 0;whale v cow at a keeps 0 lost 0;box p from b to c weighs 1 day 0");
        Check.granted(x, "brings(0, 0)", x.brings(0, 0), 12);
        Check.granted(x, "brings(1, 0), a cow", x.brings(1, 0), 282);
    }

    private static void promise26SongsOfUnlikeLengths() {
        WhalePost x = Check.posted(Check.HEAD + "island a ab;island b abab;island c ababab;way a b days 5 open 15;way b c days 7 open 15;"
            + "whale u cow at a keeps 0 lost 0;whale v cow at a keeps 0 lost 0;whale w cow at a keeps 0 lost 0;"
            + "box p from a to b weighs 1 day 0;box q from a to c weighs 1 day 0;box r from a to a weighs 1 day 0");
        int[] want = {5, 12, 0};
        for (int w = 0; w < 3; w++) {
            for (int b = 0; b < 3; b++) {
                Check.granted(x, "brings(" + w + ", " + b + ")", x.brings(w, b), want[b]);
            }
        }
    }

    private static void promise26ACalfByOneWayEachTime() {
        WhalePost x = Check.posted(LINE + "whale w calf at a keeps 0 lost 0;box p from b to c weighs 1 day 0;box q from a to c weighs 1 day 0;"
            + "box r from c to b weighs 1 day 0");
        Check.granted(x, "brings(0, 0), one there, one on", x.brings(0, 0), 12);
        Check.granted(x, "brings(0, 1), two on", x.brings(0, 1), -2);
        Check.granted(x, "brings(0, 2), two there", x.brings(0, 2), -2);
    }

    // ---- promises 27 and 28: soonest, surest

    private static void promise27BoxBelowAndAbove() {
        WhalePost x = Check.posted(Check.WORLD);
        for (int b : new int[] {-1, 3, LEAST, MOST}) {
            Check.refused(x, "soonest(" + b + ")", x.soonest(b), 1);
        }
    }

    private static void promise27NoWhales() {
        WhalePost x = Check.posted(TWO + BOX);
        Check.granted(x, "soonest(0)", x.soonest(0), -2);
    }

    private static void promise27NoneCan() {
        WhalePost x = Check.posted(PAIR + "box p from a to b weighs 10 day 0");
        Check.granted(x, "soonest(0)", x.soonest(0), -2);
    }

    private static void promise27TheFirstOfLikeOnes() {
        WhalePost x = Check.posted(TWO + "whale h bull at a keeps 0 lost 0;whale u cow at a keeps 1 lost 0;whale v calf at a keeps 1 lost 0;" + BOX);
        Check.granted(x, "soonest(0)", x.soonest(0), 1);
    }

    private static void promise27ADaySooner() {
        WhalePost x = Check.posted(TWO + "whale u cow at a keeps 2 lost 0;whale v calf at a keeps 1 lost 99;" + BOX);
        Check.granted(x, "soonest(0)", x.soonest(0), 1);
    }

    private static void promise27OnDayZero() {
        WhalePost x = Check.posted(TWO + "whale u cow at b keeps 0 lost 0;whale v cow at a keeps 0 lost 0;box p from a to a weighs 1 day 0");
        Check.granted(x, "soonest(0)", x.soonest(0), 1);
    }

    private static void promise27TheFirstOfAll() {
        WhalePost x = Check.posted(fiveWhales(5, 6, 7, 5, 9) + BOX);
        Check.granted(x, "soonest(0)", x.soonest(0), 0);
        Check.granted(x, "surest(0)", x.surest(0), 0);
    }

    private static void promise27TheLastOfFive() {
        WhalePost x = Check.posted(fiveWhales(9, 8, 7, 6, 5) + BOX);
        Check.granted(x, "soonest(0)", x.soonest(0), 4);
    }

    private static void promise28BoxBelowAndAbove() {
        WhalePost x = Check.posted(Check.WORLD);
        for (int b : new int[] {-1, 3, LEAST, MOST}) {
            Check.refused(x, "surest(" + b + ")", x.surest(b), 1);
        }
    }

    private static void promise28NoneCan() {
        WhalePost x = Check.posted(PAIR + "box p from a to b weighs 10 day 0");
        Check.granted(x, "surest(0)", x.surest(0), -2);
        WhalePost none = Check.posted(TWO + BOX);
        Check.granted(none, "surest(0), no whales", none.surest(0), -2);
    }

    private static void promise28TheFirstOfLikeOnes() {
        WhalePost x = Check.posted(fiveWhales(9, 5, 5, 9, 5) + BOX);
        Check.granted(x, "surest(0)", x.surest(0), 1);
    }

    private static void promise28OneInAHundredLess() {
        WhalePost x = Check.posted(fiveWhales(99, 99, 99, 99, 98) + BOX);
        Check.granted(x, "surest(0)", x.surest(0), 4);
        WhalePost y = Check.posted(fiveWhales(1, 1, 0, 1, 0) + BOX);
        Check.granted(y, "surest(0)", y.surest(0), 2);
    }

    private static void promise28WhateverTheDays() {
        // The surest keeps it longest and comes from afar.
        WhalePost x = Check.posted(TWO + "whale u cow at a keeps 0 lost 9;whale v bull at b keeps 99 lost 3;whale w cow at a keeps 1 lost 5;" + BOX);
        Check.granted(x, "surest(0)", x.surest(0), 1);
        Check.granted(x, "soonest(0)", x.soonest(0), 0);
    }

    private static void promise28OfThoseThatCan() {
        WhalePost x = Check.posted(TWO + "whale c calf at a keeps 0 lost 0;whale u cow at a keeps 0 lost 50;box p from a to b weighs 4 day 0");
        Check.granted(x, "surest(0)", x.surest(0), 1);
    }

    // ---- promise 29: by

    private static void promise29BoxBelowAndAbove() {
        WhalePost x = Check.posted(Check.WORLD);
        for (int b : new int[] {-1, 3, LEAST, MOST}) {
            Check.refused(x, "by(" + b + ", 0)", x.by(b, 0), 1);
            Check.refused(x, "by(" + b + ", -1)", x.by(b, -1), 1);
        }
    }

    private static void promise29DayBelowAndAbove() {
        WhalePost x = Check.posted(Check.WORLD);
        for (int day : new int[] {-1, 100000, LEAST, MOST}) {
            Check.refused(x, "by(0, " + day + ")", x.by(0, day), 2);
        }
        Check.granted(x, "by(0, 0)", x.by(0, 0), 0);
        Check.granted(x, "by(0, 99999)", x.by(0, 99999), 15);
    }

    private static void promise29OnTheVeryDay() {
        WhalePost x = Check.posted(PAIR + BOX);
        Check.granted(x, "by(0, 4)", x.by(0, 4), 0);
        Check.granted(x, "by(0, 5)", x.by(0, 5), 1);
        Check.granted(x, "by(0, 9)", x.by(0, 9), 1);
        Check.granted(x, "by(0, 10)", x.by(0, 10), 3);
    }

    private static void promise29OnDayZero() {
        WhalePost x = Check.posted(TWO + "whale u cow at a keeps 0 lost 0;box p from a to a weighs 1 day 0");
        Check.granted(x, "by(0, 0)", x.by(0, 0), 1);
    }

    private static void promise29AllFive() {
        WhalePost x = Check.posted(fiveWhales(1, 2, 3, 4, 5) + BOX);
        Check.granted(x, "by(0, 10)", x.by(0, 10), 31);
        Check.granted(x, "by(0, 9)", x.by(0, 9), 15);
    }

    private static void promise29NoneCan() {
        WhalePost x = Check.posted(PAIR + "box p from a to b weighs 10 day 0");
        Check.granted(x, "by(0, 99999)", x.by(0, 99999), 0);
    }

    // ---- promise 30: registered

    private static void promise30BoxBelowAndAbove() {
        WhalePost x = Check.posted(Check.WORLD);
        for (int b : new int[] {-1, 3, LEAST, MOST}) {
            Check.refused(x, "registered(" + b + ", false)", x.registered(b, false), 1);
            Check.refused(x, "registered(" + b + ", true)", x.registered(b, true), 1);
        }
    }

    private static void promise30NoneCan() {
        WhalePost x = Check.posted(PAIR + "box p from a to b weighs 10 day 0");
        Check.refused(x, "registered(0, false)", x.registered(0, false), 6);
        Check.refused(x, "registered(0, true)", x.registered(0, true), 6);
    }

    private static void promise30NotWhenItIsSent() {
        WhalePost x = Check.posted(PAIR + BOX);
        x.send(0, 0);
        Check.refused(x, "registered(0, false)", x.registered(0, false), 6);
    }

    private static void promise30ByOneAlone() {
        likely(99, 100, 1);
        likely(1, 100, 99);
        likely(1, 2, 50);
        likely(3, 4, 25);
    }

    private static void promise30NothingIsLost() {
        likely(1, 1, 0);
        likely(1, 1, 0, 99);
        likely(1, 1, 99, 0);
    }

    private static void promise30TheTwoThatLoseLeast() {
        // 99 by 99 of 10,000 are lost at most.
        likely(199, 10000, 99, 99);
        likely(9999, 10000, 1, 1);
        likely(3, 4, 50, 50);
        likely(4997, 5000, 9, 3, 7, 2, 8);
        likely(9991, 10000, 3, 9, 3);
    }

    private static void promise30WhateverTheyKeep() {
        WhalePost x = Check.posted(TWO + "whale u cow at a keeps 0 lost 9;whale v cow at a keeps 99 lost 3;whale w cow at a keeps 50 lost 7;" + BOX);
        Check.granted(x, "registered(0, false)", x.registered(0, false), 9979);
        Check.granted(x, "registered(0, true)", x.registered(0, true), 10000);
    }

    private static void promise30InLowestTerms() {
        likely(19, 20, 10, 50);
        likely(24, 25, 20, 20);
        likely(9, 10, 10);
        likely(24, 25, 4);
    }

    private static void promise30TheSecondMustBeAbleToo() {
        WhalePost x = Check.posted(TWO + "whale c calf at a keeps 0 lost 0;whale u cow at a keeps 0 lost 50;box p from a to b weighs 4 day 0");
        Check.granted(x, "registered(0, false)", x.registered(0, false), 1);
        Check.granted(x, "registered(0, true)", x.registered(0, true), 2);
    }

    // ---- promises 31 to 33: match

    private static void promise31NoPost() {
        WhalePost x = new WhalePost();
        Check.refused(x, "match()", x.match(), 1);
    }

    private static void promise31NothingToMatch() {
        matched(Check.posted(Check.HEAD + "island a ab"), 0, 0);
        matched(Check.posted(PAIR + "island c aa"), 0, 0);
        matched(Check.posted(TWO + BOX), 0, 0, -2);
    }

    private static void promise31NoneCan() {
        matched(Check.posted(PAIR + "box p from a to b weighs 10 day 0"), 0, 0, -2);
    }

    private static void promise31FiveWhalesForEightBoxes() {
        WhalePost x = Check.posted(fiveWhales(1, 2, 3, 4, 5) + boxes(8));
        matched(x, 5, 5 * 5 + 15, 0, 1, 2, 3, 4, -2, -2, -2);
    }

    private static void promise31EightBoxesForOneWhale() {
        WhalePost x = Check.posted(TWO + "whale w cow at a keeps 0 lost 0;" + boxes(8));
        matched(x, 1, 5, 0, -2, -2, -2, -2, -2, -2, -2);
    }

    private static void promise31AsManyAsCanBeAheadOfDays() {
        // One alone would be soon; both together are late.
        WhalePost x = Check.posted(TWO + "whale u cow at a keeps 0 lost 0;whale c calf at a keeps 99 lost 0;"
            + "box p from a to b weighs 1 day 0;box q from a to b weighs 9 day 9999");
        matched(x, 2, 104 + 10004, 1, 0);
    }

    private static void promise31BoxesSentAreOut() {
        WhalePost x = Check.posted(PAIR + "box p from a to b weighs 1 day 0;box q from b to a weighs 1 day 0");
        matched(x, 2, 10, 0, 1);
        x.send(0, 0);
        matched(x, 1, 5, -2, 1);
        x.send(1, 1);
        matched(x, 0, 0, -2, -2);
    }

    private static void promise32NoPost() {
        WhalePost x = new WhalePost();
        Check.refused(x, "matchDays()", x.matchDays(), 1);
    }

    private static void promise32TheLeastSum() {
        // Each box by the other whale would be as many boxes, but later.
        matched(Check.posted(PAIR + "box p from b to a weighs 1 day 0;box q from a to b weighs 1 day 0"), 2, 10, 1, 0);
    }

    private static void promise32AskedByItself() {
        WhalePost x = Check.posted(PAIR + "box p from a to b weighs 1 day 0;box q from b to a weighs 1 day 0");
        Check.granted(x, "matchDays()", x.matchDays(), 10);
        x.send(0, 0);
        Check.granted(x, "matchDays(), one is SENT", x.matchDays(), 5);
    }

    private static void promise32NoBoxIsLeftOfAPostAhead() {
        WhalePost x = Check.posted(fiveWhales(1, 2, 3, 4, 5) + boxes(8));
        matched(x, 5, 40, 0, 1, 2, 3, 4, -2, -2, -2);
        // What was sooner then doesn't count any more.
        Check.tell(x, fiveWhales(50, 60) + boxes(2));
        matched(x, 2, 120, 0, 1);
        Check.tell(x, fiveWhales(1, 2) + boxes(1));
        matched(x, 1, 6, 0);
    }

    private static void promise32ADayLess() {
        String text = TWO + "whale u cow at a keeps 1 lost 0;whale v cow at a keeps 0 lost 0;" + BOX;
        matched(Check.posted(text), 1, 5, 1);
    }

    private static void promise32LateDaysAreSummedWhole() {
        StringBuilder text = new StringBuilder(fiveWhales(99, 99, 99, 99, 99));
        for (int k = 0; k < 5; k++) {
            text.append(k == 0 ? "" : ";").append("box n").append((char) ('a' + k)).append(" from a to b weighs 1 day 9999");
        }
        matched(Check.posted(text.toString()), 5, 5 * 10103, 0, 1, 2, 3, 4);
    }

    private static void promise33BoxBelowAndAbove() {
        WhalePost x = Check.posted(Check.WORLD);
        for (int b : new int[] {-1, 3, 8, LEAST, MOST}) {
            Check.refused(x, "matchOf(" + b + ")", x.matchOf(b), 1);
        }
        Check.granted(x, "matchOf(2)", x.matchOf(2), 2);
    }

    private static void promise33TheFirstByWhales() {
        matched(Check.posted(TWO + "whale u cow at a keeps 0 lost 9;whale v cow at a keeps 0 lost 0;" + boxes(2)), 2, 10, 0, 1);
        matched(Check.posted(TWO + "whale u cow at a keeps 0 lost 9;whale v cow at a keeps 0 lost 0;" + boxes(1)), 1, 5, 0);
    }

    private static void promise33NoneIsBehindAllWhales() {
        matched(Check.posted(TWO + "whale u cow at a keeps 0 lost 0;" + boxes(2)), 1, 5, 0, -2);
        matched(Check.posted(TWO + "whale u cow at a keeps 0 lost 0;whale v cow at a keeps 0 lost 0;" + boxes(3)), 2, 10, 0, 1, -2);
    }

    private static void promise33TheSumIsAheadOfTheOrder() {
        WhalePost x = Check.posted(TWO + "whale u cow at a keeps 0 lost 0;box p from a to b weighs 1 day 1;box q from a to b weighs 1 day 0");
        matched(x, 1, 5, -2, 0);
    }

    private static void promise33AskedByItself() {
        WhalePost x = Check.posted(PAIR + "box p from b to a weighs 1 day 0;box q from a to b weighs 1 day 0");
        Check.granted(x, "matchOf(0)", x.matchOf(0), 1);
        x.send(1, 0);
        Check.granted(x, "matchOf(0), SENT", x.matchOf(0), -2);
        Check.granted(x, "matchOf(1)", x.matchOf(1), 0);
    }

    // ---- promise 34: meet

    private static void promise34NoneSuch() {
        WhalePost x = Check.posted(PAIR + "box p from a to b weighs 1 day 0;box q from b to a weighs 1 day 0");
        for (int k : new int[] {-1, 2, LEAST, MOST}) {
            Check.refused(x, "meet(" + k + ", 0, 1, 1)", x.meet(k, 0, 1, 1), 1);
            Check.refused(x, "meet(0, " + k + ", 1, 1)", x.meet(0, k, 1, 1), 1);
            Check.refused(x, "meet(0, 0, " + k + ", 1)", x.meet(0, 0, k, 1), 1);
            Check.refused(x, "meet(0, 0, 1, " + k + ")", x.meet(0, 0, 1, k), 1);
        }
    }

    private static void promise34OneBoxTwice() {
        WhalePost x = Check.posted(PAIR + "box p from a to b weighs 1 day 0;box q from b to a weighs 1 day 0");
        Check.refused(x, "meet(0, 0, 0, 1)", x.meet(0, 0, 0, 1), 1);
        Check.refused(x, "meet(1, 0, 1, 1)", x.meet(1, 0, 1, 1), 1);
    }

    private static void promise34OneWhaleTwice() {
        WhalePost x = Check.posted(PAIR + "box p from a to b weighs 1 day 0;box q from b to a weighs 1 day 0");
        Check.refused(x, "meet(0, 0, 1, 0)", x.meet(0, 0, 1, 0), 1);
        Check.refused(x, "meet(0, 1, 1, 1)", x.meet(0, 1, 1, 1), 1);
    }

    private static void promise34OnTheFirstDay() {
        Check.due("meet() of day 0", met(0, 0), 0);
        Check.due("meet() of day 9999", met(9999, 9999), 9999);
    }

    private static void promise34OnTheDayAheadOfArrival() {
        Check.due("meet(), q four days later", met(0, 4), 4);
        Check.due("meet(), p four days later", met(4, 0), 4);
    }

    private static void promise34NotOnTheDayOfArrival() {
        Check.due("meet(), q five days later", met(0, 5), -2);
        Check.due("meet(), p five days later", met(5, 0), -2);
    }

    private static void promise34TheDaysOfKeepingAreNotUnderWay() {
        WhalePost x = Check.posted(TWO + "whale u cow at a keeps 99 lost 0;whale v cow at b keeps 99 lost 0;"
            + "box p from a to b weighs 1 day 0;box q from b to a weighs 1 day 5");
        Check.granted(x, "meet(0, 0, 1, 1)", x.meet(0, 0, 1, 1), -2);
    }

    private static void promise34NeverUnderWayWhereItIs() {
        WhalePost x = Check.posted(PAIR + "box p from a to a weighs 1 day 0;box q from a to a weighs 1 day 0");
        Check.granted(x, "meet(0, 0, 1, 1)", x.meet(0, 0, 1, 1), -2);
    }

    private static void promise34HeardElsewhere() {
        WhalePost x = Check.posted(LINE + "whale u cow at a keeps 0 lost 0;whale v cow at b keeps 0 lost 0;"
            + "box p from a to b weighs 1 day 0;box q from b to c weighs 1 day 0;box r from b to a weighs 1 day 0");
        Check.granted(x, "meet(0, 0, 1, 1)", x.meet(0, 0, 1, 1), -2);
        Check.granted(x, "meet(1, 1, 0, 0)", x.meet(1, 1, 0, 0), -2);
        Check.granted(x, "meet(0, 0, 2, 1)", x.meet(0, 0, 2, 1), 0);
        Check.granted(x, "meet(1, 1, 2, 0), both from b", x.meet(1, 1, 2, 0), -2);
    }

    private static void promise34OneThatCannotBeBrought() {
        WhalePost x = Check.posted(PAIR + "box p from a to b weighs 1 day 0;box q from b to a weighs 10 day 0");
        Check.granted(x, "meet(0, 0, 1, 1)", x.meet(0, 0, 1, 1), -2);
        Check.granted(x, "meet(1, 1, 0, 0)", x.meet(1, 1, 0, 0), -2);
        WhalePost sent = Check.posted(PAIR + "box p from a to b weighs 1 day 0;box q from b to a weighs 1 day 0");
        sent.send(0, 0);
        Check.granted(sent, "meet(0, 0, 1, 1), SENT", sent.meet(0, 0, 1, 1), -2);
    }

    private static void promise34FromTheDayOnWhichItIsTaken() {
        WhalePost x = Check.posted(PAIR + "box p from a to b weighs 1 day 0;box q from b to a weighs 1 day 0");
        // Each whale comes on day 5 for the box of the other island.
        Check.granted(x, "meet(0, 1, 1, 0)", x.meet(0, 1, 1, 0), 5);
    }

    // ---- what the tests share

    /** Eleven ways among six islands, five days each, and the twelfth of nine days to the seventh. */
    private static String fullOfWays() {
        StringBuilder text = new StringBuilder("post notes 4 errors 0 drift 0 slip 0");
        for (int i = 0; i < 7; i++) {
            text.append(";island i").append((char) ('a' + i)).append(" a").append((char) ('a' + i / 4)).append((char) ('a' + i % 4));
        }
        int ways = 0;
        for (int i = 0; i < 6; i++) {
            for (int j = 0; j < i && ways < 11; j++) {
                text.append(";way i").append((char) ('a' + i)).append(" i").append((char) ('a' + j)).append(" days 5 open 15");
                ways++;
            }
        }
        return text + ";way ig ia days 9 open 15";
    }

    private static int met(int day, int other) {
        WhalePost x = Check.posted(PAIR + "box p from a to b weighs 1 day " + day + ";box q from b to a weighs 1 day " + other);
        int met = x.meet(0, 0, 1, 1);
        Check.due("trouble()", x.trouble(), 0);
        Check.due("meet() the other way round", x.meet(1, 1, 0, 0), met);
        return met;
    }

    private static void carries(String kind, int weight, int day) {
        for (int weighs = weight; weighs <= weight + 1; weighs++) {
            WhalePost x = Check.posted(TWO + "whale w " + kind + " at a keeps 0 lost 0;box p from a to b weighs " + weighs + " day 0");
            Check.granted(x, "brings(0, 0) of " + weighs, x.brings(0, 0), weighs == weight ? day : -2);
        }
    }

    /** Cows at a, each keeps as many days as it loses of a hundred. */
    private static String fiveWhales(int... lost) {
        StringBuilder text = new StringBuilder(TWO);
        for (int w = 0; w < lost.length; w++) {
            text.append("whale w").append((char) ('a' + w)).append(" cow at a keeps ").append(lost[w]).append(" lost ").append(lost[w]).append(';');
        }
        return text.toString();
    }

    private static String boxes(int many) {
        StringBuilder text = new StringBuilder();
        for (int b = 0; b < many; b++) {
            text.append(b == 0 ? "" : ";").append("box n").append((char) ('a' + b)).append(" from a to b weighs 1 day 0");
        }
        return text.toString();
    }

    private static void likely(int upper, int lower, int... lost) {
        WhalePost x = Check.posted(fiveWhales(lost) + BOX);
        Check.granted(x, "registered(0, false)", x.registered(0, false), upper);
        Check.granted(x, "registered(0, true)", x.registered(0, true), lower);
    }

    private static void matched(WhalePost x, int count, int days, int... whales) {
        Check.granted(x, "match()", x.match(), count);
        Check.granted(x, "matchDays()", x.matchDays(), days);
        for (int b = 0; b < whales.length; b++) {
            Check.granted(x, "matchOf(" + b + ")", x.matchOf(b), whales[b]);
        }
    }
}
