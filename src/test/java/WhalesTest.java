/** Promises 25 to 34: when whales can be where, and which boxes they bring. */
public final class WhalesTest {
    private static final String TWO = Check.HEAD + "island a ab;island b ba;way a b days 5 open 15;";
    private static final String CROWD = TWO
        + "whale u cow at a keeps 0 lost 7;whale v cow at a keeps 0 lost 7;whale c calf at a keeps 0 lost 3;"
        + "box p from a to b weighs 3 day 0;box q from a to b weighs 4 day 0;box r from b to a weighs 10 day 0";

    public static void main(String[] args) {
        arrival();
        brings();
        carrying();
        bestBringers();
        registered();
        match();
        matchTies();
        meet();
        meetHearing();
        Check.end();
    }

    private static void arrival() {
        WhalePost x = Check.posted(Check.WORLD);
        Check.granted(x, "arrival(1, 0, 2, 0)", x.arrival(1, 0, 2, 0), 50);
        Check.granted(x, "arrival(1, 0, 2, 80), over bo", x.arrival(1, 0, 2, 80), 110);
        Check.granted(x, "arrival(0, 0, 2, 80), a calf by one way", x.arrival(0, 0, 2, 80), 130);
        Check.granted(x, "arrival(2, 0, 2, 80), a bull", x.arrival(2, 0, 2, 80), 140);
        Check.granted(x, "arrival(3, 0, 2, 0), an old one", x.arrival(3, 0, 2, 0), 30);
        Check.granted(x, "arrival(1, 2, 1, 0), back as there", x.arrival(1, 2, 1, 0), 60);
        Check.granted(x, "arrival(0, 2, 2, 9999)", x.arrival(0, 2, 2, 9999), 9999);
        Check.granted(x, "arrival(3, 0, 3, 0)", x.arrival(3, 0, 3, 0), -2);
        Check.granted(x, "arrival(1, 1, 2, 9999)", x.arrival(1, 1, 2, 9999), 10059);
        Check.refused(x, "arrival(4, 0, 0, 0)", x.arrival(4, 0, 0, 0), 1);
        Check.refused(x, "arrival(0, 4, 0, 0)", x.arrival(0, 4, 0, 0), 1);
        Check.refused(x, "arrival(0, 0, -1, 0)", x.arrival(0, 0, -1, 0), 1);
        Check.refused(x, "arrival(0, 0, 4, -1)", x.arrival(0, 0, 4, -1), 1);
        Check.refused(x, "arrival(0, 0, 0, -1)", x.arrival(0, 0, 0, -1), 2);
        Check.refused(x, "arrival(0, 0, 0, 10000)", x.arrival(0, 0, 0, 10000), 2);
        x.close(1, true);
        Check.granted(x, "arrival(1, 0, 2, 80), way 1 closed", x.arrival(1, 0, 2, 80), 130);
        Check.granted(x, "arrival(3, 0, 2, 0), way 1 closed", x.arrival(3, 0, 2, 0), 50);
        Check.granted(x, "arrival(0, 1, 2, 0), way 1 closed", x.arrival(0, 1, 2, 0), -2);
        x.close(2, true);
        Check.granted(x, "arrival(3, 0, 2, 0), ways closed", x.arrival(3, 0, 2, 0), -2);
    }

    private static void brings() {
        WhalePost x = Check.posted(Check.WORLD);
        int[][] want = {{17, -2, -2}, {15, 50, -2}, {45, 125, 28}, {41, 61, -2}};
        for (int w = 0; w < 4; w++) {
            for (int b = 0; b < 3; b++) {
                Check.granted(x, "brings(" + w + ", " + b + ")", x.brings(w, b), want[w][b]);
            }
        }
        Check.refused(x, "brings(4, 0)", x.brings(4, 0), 1);
        Check.refused(x, "brings(-1, 0)", x.brings(-1, 0), 1);
        Check.refused(x, "brings(0, 3)", x.brings(0, 3), 1);
        x.tune(1, 1, 2);
        x.tune(1, 2, 2);
        Check.granted(x, "brings(1, 1), nobody hears bcc", x.brings(1, 1), -2);
        x.send(1, 0);
        Check.granted(x, "brings(2, 0), SENT", x.brings(2, 0), -2);
        x.undo();
        x.close(0, true);
        x.close(2, true);
        Check.granted(x, "brings(1, 0), no ways", x.brings(1, 0), -2);
        Check.granted(x, "brings(2, 0), can't come", x.brings(2, 0), -2);

        WhalePost late = Check.posted(Check.WORLD);
        late.years(10);
        Check.granted(late, "brings(0, 0), it is there", late.brings(0, 0), 7);
        Check.granted(late, "brings(3, 0) from cy", late.brings(3, 0), 31);
    }

    private static void carrying() {
        String kinds = TWO + "whale c calf at a keeps 0 lost 0;whale o old at a keeps 0 lost 0;"
            + "whale w cow at a keeps 0 lost 0;whale h bull at a keeps 0 lost 0";
        int[] weights = {3, 4, 9, 10, 99};
        int[][] carried = {{5, 5, 5, 10}, {-2, 5, 5, 10}, {-2, 5, 5, 10}, {-2, -2, -2, 10}, {-2, -2, -2, 10}};
        for (int k = 0; k < weights.length; k++) {
            WhalePost x = Check.posted(kinds + ";box p from a to b weighs " + weights[k] + " day 0");
            for (int w = 0; w < 4; w++) {
                Check.granted(x, "brings(" + w + ", 0) of " + weights[k], x.brings(w, 0), carried[k][w]);
            }
        }
        // A calf goes one way to the box and one way on with it.
        WhalePost x = Check.posted(Check.HEAD + "island a ab;island b ba;island c bb;way a b days 5 open 15;"
            + "way b c days 7 open 15;whale w calf at a keeps 3 lost 0;box p from b to c weighs 1 day 2;box q from a to c weighs 1 day 0");
        Check.granted(x, "brings(0, 0)", x.brings(0, 0), 15);
        Check.granted(x, "brings(0, 1)", x.brings(0, 1), -2);
    }

    private static void bestBringers() {
        WhalePost x = Check.posted(CROWD);
        Check.granted(x, "soonest(0), the first", x.soonest(0), 0);
        Check.granted(x, "surest(0)", x.surest(0), 2);
        Check.granted(x, "surest(1), the first", x.surest(1), 0);
        Check.granted(x, "soonest(2)", x.soonest(2), -2);
        Check.granted(x, "surest(2)", x.surest(2), -2);
        Check.granted(x, "by(0, 5)", x.by(0, 5), 7);
        Check.granted(x, "by(0, 4)", x.by(0, 4), 0);
        Check.granted(x, "by(1, 99999)", x.by(1, 99999), 3);
        Check.granted(x, "by(2, 99999)", x.by(2, 99999), 0);
        Check.refused(x, "by(0, -1)", x.by(0, -1), 2);
        Check.refused(x, "by(0, 100000)", x.by(0, 100000), 2);
        Check.refused(x, "by(3, -1)", x.by(3, -1), 1);
        Check.refused(x, "soonest(3)", x.soonest(3), 1);
        Check.refused(x, "soonest(-1)", x.soonest(-1), 1);
        Check.refused(x, "surest(3)", x.surest(3), 1);
        Check.refused(x, "surest(-1)", x.surest(-1), 1);
        x.send(0, 1);
        Check.granted(x, "brings(0, 0), back first", x.brings(0, 0), 15);
        Check.granted(x, "soonest(0)", x.soonest(0), 1);
        Check.granted(x, "by(0, 14)", x.by(0, 14), 6);
        Check.granted(x, "soonest(1), SENT", x.soonest(1), -2);

        WhalePost world = Check.posted(Check.WORLD);
        Check.granted(world, "soonest(0)", world.soonest(0), 1);
        Check.granted(world, "surest(0)", world.surest(0), 2);
        Check.granted(world, "soonest(2)", world.soonest(2), 2);
    }

    private static void registered() {
        WhalePost x = Check.posted(CROWD);
        fraction(x, 0, 9979, 10000);
        fraction(x, 1, 9951, 10000);
        Check.refused(x, "registered(2, false)", x.registered(2, false), 6);
        Check.refused(x, "registered(2, true)", x.registered(2, true), 6);
        Check.refused(x, "registered(3, false)", x.registered(3, false), 1);
        Check.refused(x, "registered(-1, true)", x.registered(-1, true), 1);
        x.send(0, 0);
        Check.refused(x, "registered(0, false), SENT", x.registered(0, false), 6);
        WhalePost world = Check.posted(Check.WORLD);
        fraction(world, 0, 199, 200);
        fraction(world, 2, 19, 20);
        String box = ";box p from a to b weighs 1 day 0";
        fraction(Check.posted(TWO + "whale u cow at a keeps 0 lost 0" + box), 0, 1, 1);
        fraction(Check.posted(TWO + "whale u cow at a keeps 0 lost 99" + box), 0, 1, 100);
        fraction(Check.posted(TWO + "whale u cow at a keeps 0 lost 50;whale v cow at b keeps 0 lost 50" + box), 0, 3, 4);
    }

    private static void fraction(WhalePost x, int b, int upper, int lower) {
        Check.granted(x, "registered(" + b + ", false)", x.registered(b, false), upper);
        Check.granted(x, "registered(" + b + ", true)", x.registered(b, true), lower);
    }

    private static void match() {
        WhalePost x = Check.posted(Check.WORLD);
        matched(x, 3, 95, 0, 1, 2);
        x.send(0, 0);
        // Left: y by the cow 50, the old one 61 or the bull 125; z by the bull.
        matched(x, 2, 78, -2, 1, 2);
        x.close(0, true);
        // The bull at bo gets away over cy alone, and z can't.
        Check.granted(x, "brings(2, 2)", x.brings(2, 2), 230 + 5);
        Check.granted(x, "match()", x.match(), 2);
        Check.refused(x, "matchOf(3)", x.matchOf(3), 1);
        Check.refused(x, "matchOf(-1)", x.matchOf(-1), 1);
        WhalePost none = new WhalePost();
        Check.refused(none, "match()", none.match(), 1);
        Check.refused(none, "matchDays()", none.matchDays(), 1);
        Check.refused(none, "matchOf(0)", none.matchOf(0), 1);
    }

    private static void matchTies() {
        matched(Check.posted(CROWD), 2, 10, 0, 1, -2);
        WhalePost alone = Check.posted(CROWD);
        Check.granted(alone, "matchDays() without match()", alone.matchDays(), 10);
        alone = Check.posted(CROWD);
        Check.granted(alone, "matchOf(1) without match()", alone.matchOf(1), 1);
        String one = TWO + "whale u cow at a keeps 0 lost 0;box p from a to b weighs 1 day 0;box q from a to b weighs 1 day 0";
        matched(Check.posted(one), 1, 5, 0, -2);
        // The later box is sooner: the least sum counts ahead of the order.
        matched(Check.posted(one.replace("day 0;box q", "day 9;box q")), 1, 5, -2, 0);
        // The calf can take p alone, so that the cow is left for q although it is sooner with p.
        String more = TWO + "whale u cow at a keeps 0 lost 0;whale c calf at a keeps 90 lost 0;"
            + "box p from a to b weighs 1 day 0;box q from a to b weighs 9 day 0";
        WhalePost again = Check.posted(more);
        matched(again, 2, 100, 1, 0);
        // Nothing of the box that is gone is left in the next POST.
        Check.tell(again, more.substring(0, more.indexOf(";box q")));
        matched(again, 1, 5, 0);
    }

    private static void matched(WhalePost x, int count, int days, int... whales) {
        Check.granted(x, "match()", x.match(), count);
        Check.granted(x, "matchDays()", x.matchDays(), days);
        for (int b = 0; b < whales.length; b++) {
            Check.granted(x, "matchOf(" + b + ")", x.matchOf(b), whales[b]);
        }
    }

    private static void meet() {
        String whales = TWO + "whale u cow at a keeps 9 lost 0;whale v cow at b keeps 9 lost 0;";
        int[] days = {0, 1, 4, 5, 6};
        int[] want = {0, 1, 4, -2, -2};
        for (int k = 0; k < days.length; k++) {
            WhalePost x = Check.posted(whales + "box p from a to b weighs 1 day 0;box r from b to a weighs 1 day " + days[k]);
            Check.granted(x, "meet(0, 0, 1, 1) by day " + days[k], x.meet(0, 0, 1, 1), want[k]);
            Check.granted(x, "meet(1, 1, 0, 0) by day " + days[k], x.meet(1, 1, 0, 0), want[k]);
        }
        WhalePost x = Check.posted(whales + "box p from a to b weighs 1 day 0;box r from b to a weighs 1 day 0");
        // Each whale goes for the box of the other island first.
        Check.granted(x, "meet(0, 1, 1, 0)", x.meet(0, 1, 1, 0), 5);
        Check.refused(x, "meet(0, 0, 0, 1)", x.meet(0, 0, 0, 1), 1);
        Check.refused(x, "meet(0, 0, 1, 0)", x.meet(0, 0, 1, 0), 1);
        Check.refused(x, "meet(2, 0, 1, 1)", x.meet(2, 0, 1, 1), 1);
        Check.refused(x, "meet(0, 2, 1, 1)", x.meet(0, 2, 1, 1), 1);
        Check.refused(x, "meet(0, 0, 2, 1)", x.meet(0, 0, 2, 1), 1);
        Check.refused(x, "meet(0, 0, 1, -1)", x.meet(0, 0, 1, -1), 1);
        x.send(0, 0);
        Check.granted(x, "meet(0, 0, 1, 1), SENT", x.meet(0, 0, 1, 1), -2);
        WhalePost waits = Check.posted(whales.replace("open 15", "open 2") + "box p from a to b weighs 1 day 0;box r from b to a weighs 1 day 94");
        // Waiting for the season it is under way, too: from day 0 to 94, and from 94 on.
        Check.granted(waits, "meet(0, 0, 1, 1), waiting", waits.meet(0, 0, 1, 1), 94);
    }

    private static void meetHearing() {
        String whales = TWO + "whale u cow at a keeps 0 lost 0;whale v cow at b keeps 0 lost 0;";
        WhalePost same = Check.posted(whales + "box p from a to a weighs 1 day 0;box r from a to a weighs 1 day 0");
        Check.granted(same, "meet(0, 0, 1, 1), never under way", same.meet(0, 0, 1, 1), -2);
        WhalePost along = Check.posted(whales + "box p from a to b weighs 1 day 0;box r from a to b weighs 1 day 5");
        Check.granted(along, "meet(0, 0, 1, 1), both go along", along.meet(0, 0, 1, 1), -2);
        String third = whales.replace("way a b", "island c bb;way b c days 5 open 15;way a b");
        WhalePost past = Check.posted(third + "box p from a to b weighs 1 day 0;box r from b to c weighs 1 day 0");
        Check.granted(past, "meet(0, 0, 1, 1), r is heard elsewhere", past.meet(0, 0, 1, 1), -2);
        Check.granted(past, "meet(1, 1, 0, 0), r is heard elsewhere", past.meet(1, 1, 0, 0), -2);
        WhalePost far = Check.posted(third + "whale k calf at c keeps 0 lost 0;"
            + "box p from b to a weighs 1 day 0;box r from a to b weighs 1 day 0");
        Check.granted(far, "meet(0, 1, 1, 0)", far.meet(0, 1, 1, 0), 0);
        Check.granted(far, "meet(0, 1, 1, 2), a calf can't come to r", far.meet(0, 1, 1, 2), -2);
        Check.granted(far, "meet(1, 2, 0, 1), a calf can't come to r", far.meet(1, 2, 0, 1), -2);
        WhalePost tuned = Check.posted(whales + "box p from a to b weighs 1 day 0;box r from b to b weighs 1 day 0");
        Check.granted(tuned, "meet(0, 0, 1, 1) as told", tuned.meet(0, 0, 1, 1), -2);
        tuned.tune(1, 0, 0);
        tuned.tune(1, 1, 1);
        Check.granted(tuned, "meet(0, 0, 1, 1), r heard at a", tuned.meet(0, 0, 1, 1), 0);
        WhalePost heavy = Check.posted(whales + "box p from a to b weighs 1 day 0;box r from b to a weighs 10 day 0");
        Check.granted(heavy, "meet(0, 0, 1, 1), too heavy", heavy.meet(0, 0, 1, 1), -2);
    }
}
