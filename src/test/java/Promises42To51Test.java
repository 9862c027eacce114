import java.util.NoSuchElementException;

/** The boundary cases of promises 42 to 51, a test each. */
public final class Promises42To51Test {
    private static final int LEAST = Integer.MIN_VALUE;
    private static final int MOST = Integer.MAX_VALUE;
    private static final String TWO = Check.HEAD + "island a ab;island b ba;way a b days 5 open 15;";
    private static final String PAIR = TWO + "whale u cow at a keeps 0 lost 0;whale v cow at b keeps 0 lost 0;";

    public static void main(String[] args) {
        Promises.test(Promises42To51Test.class, 42, 51);
    }

    // ---- promise 42: send

    private static void promise42NoneSuch() {
        WhalePost x = Check.posted(Check.WORLD);
        for (int k : new int[] {-1, 4, LEAST, MOST}) {
            Check.refused(x, "send(" + k + ", 0)", x.send(k, 0), 1);
            Check.refused(x, "send(0, " + k + ")", x.send(0, k), 1);
        }
        Check.refused(x, "send(0, 3)", x.send(0, 3), 1);
        Check.due("size(10)", x.size(10), 0);
    }

    private static void promise42TooHeavy() {
        WhalePost x = Check.posted(PAIR + "box p from a to b weighs 10 day 0;box q from a to b weighs 9 day 0");
        Check.refused(x, "send(0, 0)", x.send(0, 0), 5);
        Check.granted(x, "send(0, 1)", x.send(0, 1), 5);
    }

    private static void promise42SentAlready() {
        WhalePost x = Check.posted(PAIR + "box p from a to b weighs 1 day 0");
        x.send(0, 0);
        Check.refused(x, "send(0, 0)", x.send(0, 0), 5);
        Check.refused(x, "send(1, 0)", x.send(1, 0), 5);
        Check.granted(x, "box(0, 4) stays", x.box(0, 4), 5);
    }

    private static void promise42NobodyHeardIt() {
        WhalePost x = Check.posted(PAIR + "box p from a to b weighs 1 day 0");
        x.tune(0, 0, 0);
        Check.refused(x, "send(0, 0)", x.send(0, 0), 5);
    }

    private static void promise42NoWays() {
        WhalePost x = Check.posted(PAIR + "box p from a to b weighs 1 day 0");
        x.close(0, true);
        Check.refused(x, "send(0, 0)", x.send(0, 0), 5);
        Check.refused(x, "send(1, 0)", x.send(1, 0), 5);
    }

    private static void promise42RefusedNothingChanges() {
        WhalePost x = Check.posted(PAIR + "box p from a to b weighs 10 day 0");
        x.send(0, 0);
        Check.granted(x, "whale(0, 1)", x.whale(0, 1), 0);
        Check.granted(x, "whale(0, 2)", x.whale(0, 2), 0);
        Check.granted(x, "box(0, 4)", x.box(0, 4), -2);
        Check.granted(x, "box(0, 5)", x.box(0, 5), -2);
        Check.due("size(10)", x.size(10), 0);
    }

    private static void promise42OnDayZero() {
        WhalePost x = Check.posted(PAIR + "box p from a to a weighs 1 day 0");
        Check.granted(x, "send(0, 0)", x.send(0, 0), 0);
        Check.granted(x, "sent(0)", x.sent(0), 1);
        Check.refused(x, "send(0, 0) again", x.send(0, 0), 5);
    }

    private static void promise42TheWhaleIsThereFromThatDayOn() {
        WhalePost x = Check.posted(TWO + "whale u cow at a keeps 99 lost 0;box p from a to b weighs 1 day 9999;box q from b to a weighs 1 day 0");
        Check.granted(x, "send(0, 0)", x.send(0, 0), 10103);
        Check.granted(x, "whale(0, 1)", x.whale(0, 1), 1);
        Check.granted(x, "whale(0, 2)", x.whale(0, 2), 10103);
        Check.granted(x, "brings(0, 1)", x.brings(0, 1), 10103 + 5 + 99);
    }

    private static void promise42ABoxWaitsWhereItWas() {
        // The whale is at b, but the second box is at a still.
        WhalePost x = Check.posted(TWO + "whale u cow at a keeps 0 lost 0;box p from a to b weighs 1 day 0;box q from a to b weighs 1 day 0");
        x.send(0, 0);
        Check.granted(x, "send(0, 1)", x.send(0, 1), 15);
    }

    // ---- promise 43: tune

    private static void promise43BoxBelowAndAbove() {
        WhalePost x = Check.posted(Check.WORLD);
        for (int b : new int[] {-1, 3, LEAST, MOST}) {
            Check.refused(x, "tune(" + b + ", 0, 0)", x.tune(b, 0, 0), 1);
        }
    }

    private static void promise43PlaceBelowAndAbove() {
        WhalePost x = Check.posted(Check.WORLD);
        for (int k : new int[] {-1, 3, 6, LEAST, MOST}) {
            Check.refused(x, "tune(0, " + k + ", 0)", x.tune(0, k, 0), 1);
        }
        Check.granted(x, "tune(0, 2, 2)", x.tune(0, 2, 2));
    }

    private static void promise43NoteBelowAndAbove() {
        for (int notes = 2; notes <= 4; notes++) {
            WhalePost x = Check.posted("post notes " + notes + " errors 0 drift 0 slip 0;island a ab;box p from a to a weighs 1 day 0");
            for (int note : new int[] {-1, notes, 4, LEAST, MOST}) {
                Check.refused(x, "tune(0, 0, " + note + ")", x.tune(0, 0, note), 2);
            }
            Check.granted(x, "tune(0, 0, " + (notes - 1) + ")", x.tune(0, 0, notes - 1));
            Check.granted(x, "tune(0, 0, 0)", x.tune(0, 0, 0));
        }
    }

    private static void promise43NoneSuchAheadOfTheNumber() {
        WhalePost x = Check.posted(Check.WORLD);
        Check.refused(x, "tune(3, 0, 3)", x.tune(3, 0, 3), 1);
        Check.refused(x, "tune(0, 3, 3)", x.tune(0, 3, 3), 1);
    }

    private static void promise43ItIsSoAlready() {
        WhalePost x = Check.posted(Check.WORLD);
        Check.refused(x, "tune(0, 0, 2)", x.tune(0, 0, 2), 5);
        x.tune(0, 0, 1);
        Check.refused(x, "tune(0, 0, 1)", x.tune(0, 0, 1), 5);
        Check.granted(x, "tune(0, 0, 2)", x.tune(0, 0, 2));
        Check.due("size(10)", x.size(10), 2);
    }

    private static void promise43Sent() {
        WhalePost x = Check.posted(Check.WORLD);
        x.send(1, 0);
        Check.refused(x, "tune(0, 0, 1)", x.tune(0, 0, 1), 5);
        Check.refused(x, "tune(0, 0, 2), so already, too", x.tune(0, 0, 2), 5);
        Check.granted(x, "sung(0, 0)", x.sung(0, 0), 2);
        x.undo();
        Check.granted(x, "tune(0, 0, 1)", x.tune(0, 0, 1));
    }

    private static void promise43TheNumberAheadOfNotSo() {
        WhalePost x = Check.posted(Check.WORLD);
        x.send(1, 0);
        Check.refused(x, "tune(0, 0, 3)", x.tune(0, 0, 3), 2);
        Check.refused(x, "tune(0, 3, 0)", x.tune(0, 3, 0), 1);
    }

    // ---- promise 44: years

    private static void promise44BelowAndAbove() {
        WhalePost x = Check.posted(Check.WORLD);
        for (int n : new int[] {0, -1, 100, LEAST, MOST}) {
            Check.refused(x, "years(" + n + ")", x.years(n), 2);
        }
        Check.due("size(9)", x.size(9), 0);
        Check.due("size(10)", x.size(10), 0);
        Check.granted(x, "years(1)", x.years(1), 1);
        Check.granted(x, "years(99)", x.years(99), 100);
    }

    private static void promise44NoPostAheadOfTheNumber() {
        WhalePost x = new WhalePost();
        Check.refused(x, "years(1)", x.years(1), 1);
        Check.refused(x, "years(0)", x.years(0), 1);
        Check.refused(x, "years(100)", x.years(100), 1);
    }

    private static void promise44TheLastYear() {
        WhalePost x = inYear(9998);
        Check.granted(x, "years(1)", x.years(1), 9999);
        Check.refused(x, "years(1)", x.years(1), 3);
        Check.due("size(9)", x.size(9), 9999);
    }

    private static void promise44OneMoreThanTheLastYear() {
        WhalePost x = inYear(9901);
        Check.refused(x, "years(99)", x.years(99), 3);
        Check.due("size(9)", x.size(9), 9901);
        Check.granted(x, "years(98)", x.years(98), 9999);
    }

    private static void promise44TheNumberAheadOfNoRoom() {
        WhalePost x = inYear(9999);
        Check.refused(x, "years(0)", x.years(0), 2);
        Check.refused(x, "years(100)", x.years(100), 2);
        Check.refused(x, "years(99)", x.years(99), 3);
    }

    private static void promise44RefusedItIsNoAct() {
        WhalePost x = inYear(9999);
        x.image();
        x.back(0);
        x.years(1);
        x.years(0);
        Check.due("size(9)", x.size(9), 9999);
        Check.due("size(10)", x.size(10), 0);
    }

    // ---- promise 45: close

    private static void promise45WayBelowAndAbove() {
        WhalePost x = Check.posted(Check.WORLD);
        for (int way : new int[] {-1, 3, 12, 31, 32, LEAST, MOST}) {
            Check.refused(x, "close(" + way + ", true)", x.close(way, true), 1);
            Check.refused(x, "close(" + way + ", false)", x.close(way, false), 1);
        }
        Check.granted(x, "close(2, true)", x.close(2, true));
    }

    private static void promise45NoWays() {
        WhalePost x = Check.posted(Check.HEAD + "island a ab");
        Check.refused(x, "close(0, true)", x.close(0, true), 1);
    }

    private static void promise45ItIsSoAlready() {
        WhalePost x = Check.posted(Check.WORLD);
        Check.refused(x, "close(0, false)", x.close(0, false), 5);
        Check.granted(x, "close(0, true)", x.close(0, true));
        Check.refused(x, "close(0, true) again", x.close(0, true), 5);
        Check.granted(x, "close(0, false)", x.close(0, false));
        Check.refused(x, "close(0, false) again", x.close(0, false), 5);
        Check.due("size(10)", x.size(10), 2);
    }

    private static void promise45OneWayAlone() {
        WhalePost x = Check.posted(Check.WORLD);
        x.close(1, true);
        Check.granted(x, "way(0, 1)", x.way(0, 1), 10);
        Check.granted(x, "way(1, 2)", x.way(1, 2), -2);
        Check.granted(x, "way(0, 2)", x.way(0, 2), 50);
        Check.refused(x, "close(0, false)", x.close(0, false), 5);
        Check.refused(x, "close(2, false)", x.close(2, false), 5);
    }

    // ---- promise 46: undo

    private static void promise46NothingToUndo() {
        WhalePost none = new WhalePost();
        Check.refused(none, "undo(), no POST", none.undo(), 6);
        WhalePost x = Check.posted(Check.WORLD);
        Check.refused(x, "undo()", x.undo(), 6);
        x.years(1);
        x.undo();
        Check.refused(x, "undo() of one alone", x.undo(), 6);
    }

    private static void promise46TwelveAreKept() {
        WhalePost x = Check.posted(Check.WORLD);
        for (int k = 0; k < 12; k++) {
            x.years(1);
        }
        Check.due("size(10)", x.size(10), 12);
        for (int k = 11; k >= 0; k--) {
            Check.granted(x, "undo()", x.undo());
            Check.due("size(9)", x.size(9), k);
            Check.due("size(10)", x.size(10), k);
        }
        Check.refused(x, "undo()", x.undo(), 6);
    }

    private static void promise46TheThirteenthPushesOutTheFirst() {
        WhalePost x = Check.posted(Check.WORLD);
        for (int k = 0; k < 13; k++) {
            x.years(1);
        }
        Check.due("size(10)", x.size(10), 12);
        for (int k = 0; k < 12; k++) {
            Check.granted(x, "undo()", x.undo());
        }
        Check.refused(x, "undo()", x.undo(), 6);
        Check.due("size(9)", x.size(9), 1);
    }

    private static void promise46ManyTimesRound() {
        WhalePost x = Check.posted(Check.WORLD);
        for (int k = 0; k < 40; k++) {
            x.years(1);
        }
        for (int k = 0; k < 5; k++) {
            x.undo();
        }
        Check.due("size(9)", x.size(9), 35);
        Check.due("size(10)", x.size(10), 7);
        for (int k = 0; k < 9; k++) {
            x.years(2);
        }
        Check.due("size(10)", x.size(10), 12);
        for (int k = 0; k < 12; k++) {
            x.undo();
        }
        // Nine of two years, three of one.
        Check.due("size(9)", x.size(9), 32);
        Check.refused(x, "undo()", x.undo(), 6);
    }

    private static void promise46OfEachAct() {
        WhalePost x = Check.posted(Check.WORLD);
        x.send(2, 2);
        Check.granted(x, "undo() of send", x.undo());
        Check.granted(x, "whale(2, 1)", x.whale(2, 1), 1);
        Check.granted(x, "whale(2, 2)", x.whale(2, 2), 0);
        Check.granted(x, "box(2, 4)", x.box(2, 4), -2);
        Check.granted(x, "box(2, 5)", x.box(2, 5), -2);
        x.tune(0, 0, 0);
        Check.granted(x, "undo() of tune", x.undo());
        Check.granted(x, "sung(0, 0)", x.sung(0, 0), 2);
        x.years(99);
        Check.granted(x, "undo() of years", x.undo());
        Check.due("size(9)", x.size(9), 0);
        x.close(2, true);
        Check.granted(x, "undo() of close", x.undo());
        Check.granted(x, "way(0, 2)", x.way(0, 2), 50);
        x.close(2, true);
        x.close(2, false);
        Check.granted(x, "undo() of opening", x.undo());
        Check.granted(x, "way(0, 2)", x.way(0, 2), -2);
    }

    private static void promise46AnUndoIsNoAct() {
        WhalePost x = Check.posted(Check.WORLD);
        x.years(1);
        x.years(2);
        x.undo();
        Check.due("size(10)", x.size(10), 1);
        Check.granted(x, "undo()", x.undo());
        Check.due("size(9)", x.size(9), 0);
    }

    private static void promise46RefusedActsAndImagesAreNotUndone() {
        WhalePost x = Check.posted(Check.WORLD);
        x.years(3);
        x.years(0);
        x.close(0, false);
        x.tune(0, 0, 2);
        x.send(0, 1);
        x.image();
        Check.due("size(10)", x.size(10), 1);
        Check.granted(x, "undo()", x.undo());
        Check.due("size(9)", x.size(9), 0);
        Check.due("size(11)", x.size(11), 1);
    }

    // ---- promise 47: image

    private static void promise47NoPost() {
        WhalePost x = new WhalePost();
        Check.refused(x, "image()", x.image(), 1);
        Check.due("size(11)", x.size(11), 0);
    }

    private static void promise47ThreeAreFull() {
        WhalePost x = Check.posted(Check.WORLD);
        for (int k = 0; k < 3; k++) {
            Check.granted(x, "image()", x.image(), k);
            Check.due("size(11)", x.size(11), k + 1);
        }
        Check.refused(x, "image()", x.image(), 3);
        Check.due("size(11)", x.size(11), 3);
    }

    private static void promise47RefusedNoneIsOverwritten() {
        WhalePost x = Check.posted(Check.WORLD);
        for (int k = 0; k < 3; k++) {
            x.image();
            x.years(1);
        }
        x.image();
        for (int k = 0; k < 3; k++) {
            Check.granted(x, "back(" + k + ")", x.back(k));
            Check.due("size(9)", x.size(9), k);
        }
    }

    private static void promise47FullForGoodUntilAPost() {
        WhalePost x = Check.posted(Check.WORLD);
        x.image();
        x.image();
        x.image();
        x.back(0);
        x.undo();
        Check.refused(x, "image()", x.image(), 3);
        Check.tell(x, Check.WORLD);
        Check.granted(x, "image()", x.image(), 0);
    }

    private static void promise47ItIsNoAct() {
        WhalePost x = Check.posted(Check.WORLD);
        x.image();
        Check.due("size(10)", x.size(10), 0);
        Check.refused(x, "undo()", x.undo(), 6);
    }

    // ---- promise 48: back

    private static void promise48BelowAndAbove() {
        WhalePost x = Check.posted(Check.WORLD);
        Check.refused(x, "back(0), none yet", x.back(0), 1);
        x.image();
        x.years(5);
        for (int k : new int[] {-1, 1, 2, 3, LEAST, MOST}) {
            Check.refused(x, "back(" + k + ")", x.back(k), 1);
        }
        Check.due("size(9)", x.size(9), 5);
        Check.due("size(10)", x.size(10), 1);
        Check.granted(x, "back(0)", x.back(0));
        Check.due("size(9)", x.size(9), 0);
    }

    private static void promise48NoPost() {
        WhalePost x = new WhalePost();
        Check.refused(x, "back(0)", x.back(0), 1);
    }

    private static void promise48AllIsAsItWas() {
        WhalePost x = Check.posted(Check.WORLD);
        x.send(2, 2);
        x.tune(0, 0, 0);
        x.years(5);
        x.close(0, true);
        x.image();
        x.close(0, false);
        x.close(1, true);
        x.send(1, 1);
        x.tune(0, 0, 1);
        x.years(9);
        Check.granted(x, "back(0)", x.back(0));
        Check.granted(x, "way(0, 1)", x.way(0, 1), -2);
        Check.granted(x, "way(1, 2)", x.way(1, 2), 20);
        Check.granted(x, "box(2, 4)", x.box(2, 4), 28);
        Check.granted(x, "box(2, 5)", x.box(2, 5), 0);
        Check.granted(x, "box(1, 4)", x.box(1, 4), -2);
        Check.granted(x, "box(1, 5)", x.box(1, 5), -2);
        Check.granted(x, "whale(1, 1)", x.whale(1, 1), 0);
        Check.granted(x, "whale(1, 2)", x.whale(1, 2), 0);
        Check.granted(x, "whale(2, 1)", x.whale(2, 1), 0);
        Check.granted(x, "whale(2, 2)", x.whale(2, 2), 28);
        Check.granted(x, "sung(0, 0)", x.sung(0, 0), 0);
        Check.due("size(9)", x.size(9), 5);
    }

    private static void promise48NothingCanBeUndone() {
        WhalePost x = Check.posted(Check.WORLD);
        x.years(1);
        x.image();
        x.years(2);
        x.back(0);
        Check.due("size(10)", x.size(10), 0);
        Check.refused(x, "undo()", x.undo(), 6);
        x.years(3);
        Check.due("size(10)", x.size(10), 1);
        Check.granted(x, "undo() of what came later", x.undo());
        Check.due("size(9)", x.size(9), 1);
        Check.refused(x, "undo()", x.undo(), 6);
    }

    private static void promise48RefusedAllCanBeUndone() {
        WhalePost x = Check.posted(Check.WORLD);
        x.years(1);
        x.back(0);
        Check.due("size(10)", x.size(10), 1);
        Check.granted(x, "undo()", x.undo());
    }

    private static void promise48AllImagesStay() {
        WhalePost x = Check.posted(Check.WORLD);
        x.image();
        x.years(1);
        x.image();
        x.years(1);
        x.image();
        for (int k : new int[] {0, 2, 1, 1, 2, 0}) {
            Check.granted(x, "back(" + k + ")", x.back(k));
            Check.due("size(9)", x.size(9), k);
            Check.due("size(11)", x.size(11), 3);
        }
    }

    private static void promise48AnImageIsNotChangedLater() {
        WhalePost x = Check.posted(Check.WORLD);
        x.image();
        x.back(0);
        x.years(7);
        x.close(0, true);
        x.tune(0, 0, 0);
        Check.granted(x, "back(0)", x.back(0));
        Check.due("size(9)", x.size(9), 0);
        Check.granted(x, "way(0, 1)", x.way(0, 1), 10);
        Check.granted(x, "sung(0, 0)", x.sung(0, 0), 2);
    }

    // ---- promise 49: led

    private static void promise49BelowAndAbove() {
        WhalePost x = Check.posted(Check.WORLD);
        for (int i : new int[] {-1, 3, 8, LEAST, MOST}) {
            Check.due("led(" + i + ") throws", throwsNoSuch(x, i), true);
        }
        Check.due("led(0)", x.led(0), 0);
        Check.due("led(2)", x.led(2), 2);
    }

    private static void promise49NoPostAndNoBoxes() {
        Check.due("led(0) throws", throwsNoSuch(new WhalePost(), 0), true);
        Check.due("led(0) throws", throwsNoSuch(Check.posted(Check.HEAD + "island a ab"), 0), true);
    }

    private static void promise49SentOnesAreLeftOut() {
        WhalePost x = Check.posted(PAIR + "box p from a to a weighs 1 day 0;box q from a to a weighs 1 day 0;box r from a to a weighs 1 day 0");
        x.send(0, 1);
        Check.due("led(0)", x.led(0), 0);
        Check.due("led(1)", x.led(1), 2);
        Check.due("led(2) throws", throwsNoSuch(x, 2), true);
        x.send(0, 0);
        Check.due("led(0)", x.led(0), 2);
        Check.due("led(1) throws", throwsNoSuch(x, 1), true);
        x.send(0, 2);
        Check.due("led(0) throws", throwsNoSuch(x, 0), true);
        x.undo();
        Check.due("led(0)", x.led(0), 2);
    }

    private static void promise49AllEight() {
        StringBuilder text = new StringBuilder(TWO + "whale u cow at a keeps 0 lost 0");
        for (int b = 0; b < 8; b++) {
            text.append(";box n").append((char) ('a' + b)).append(" from a to a weighs 1 day 0");
        }
        WhalePost x = Check.posted(text.toString());
        Check.due("led(7)", x.led(7), 7);
        x.send(0, 7);
        Check.due("led(7) throws", throwsNoSuch(x, 7), true);
        Check.due("led(6)", x.led(6), 6);
    }

    private static void promise49ItLeavesTheTrouble() {
        WhalePost x = Check.posted(Check.WORLD);
        x.years(0);
        x.led(0);
        Check.due("trouble()", x.trouble(), 2);
        throwsNoSuch(x, 9);
        Check.due("trouble()", x.trouble(), 2);
        Check.due("length(0) behind it", x.length(0), 3);
    }

    // ---- promise 50: size

    private static void promise50BelowAndAbove() {
        WhalePost x = Check.posted(Check.WORLD);
        for (int what : new int[] {-1, 13, 14, LEAST, MOST}) {
            Check.due("size(" + what + ")", x.size(what), -1);
        }
        WhalePost none = new WhalePost();
        Check.due("size(-1)", none.size(-1), -1);
        Check.due("size(13)", none.size(13), -1);
    }

    private static void promise50ZeroWithoutPost() {
        WhalePost x = new WhalePost();
        Check.tell(x, "post notes 4 errors 3 drift 50 slip 100;island a ab;island b a");
        for (int what = 0; what <= 12; what++) {
            Check.due("size(" + what + ")", x.size(what), 0);
        }
    }

    private static void promise50TheHeadsLeastAndMost() {
        WhalePost x = Check.posted("post notes 4 errors 3 drift 50 slip 100;island a ab");
        Check.due("size(0)", x.size(0), 4);
        Check.due("size(1)", x.size(1), 3);
        Check.due("size(2)", x.size(2), 50);
        Check.due("size(3)", x.size(3), 100);
        WhalePost y = Check.posted(Check.HEAD + "island a ab");
        Check.due("size(0)", y.size(0), 2);
        Check.due("size(1)", y.size(1), 0);
        Check.due("size(2)", y.size(2), 0);
        Check.due("size(3)", y.size(3), 0);
    }

    private static void promise50EachRowByItself() {
        String[] rows = {"", ";island c aa", ";island c aa;way a c days 1 open 1", ";whale w cow at a keeps 0 lost 0",
            ";box p from a to b weighs 1 day 0", ";whale w cow at a keeps 0 lost 0;spout w a day 0;spout w a day 1"};
        int[][] want = {{2, 1, 0, 0, 0}, {3, 1, 0, 0, 0}, {3, 2, 0, 0, 0}, {2, 1, 1, 0, 0}, {2, 1, 0, 1, 0}, {2, 1, 1, 0, 2}};
        for (int k = 0; k < rows.length; k++) {
            WhalePost x = Check.posted(TWO.substring(0, TWO.length() - 1) + rows[k]);
            for (int what = 4; what <= 8; what++) {
                Check.due("size(" + what + ") with " + rows[k], x.size(what), want[k][what - 4]);
            }
        }
    }

    private static void promise50BytesOfTheTape() {
        WhalePost x = new WhalePost();
        for (int k = 1; k <= 50; k++) {
            x.feed(0, 0, 0, 0, 0);
            Check.due("size(12)", x.size(12), 20 * k);
        }
        x.post(1001);
        Check.due("size(12)", x.size(12), 1000);
        x.post(3);
        Check.due("size(12)", x.size(12), 0);
    }

    private static void promise50ItLeavesTheTrouble() {
        WhalePost x = Check.posted(Check.WORLD);
        x.years(0);
        x.size(4);
        x.size(13);
        Check.due("trouble()", x.trouble(), 2);
    }

    // ---- promise 51: trouble

    private static void promise51NoneAtFirst() {
        Check.due("trouble()", new WhalePost().trouble(), 0);
    }

    private static void promise51EachNumber() {
        WhalePost x = Check.posted(Check.WORLD);
        x.length(4);
        Check.due("trouble()", x.trouble(), 1);
        x.years(0);
        Check.due("trouble()", x.trouble(), 2);
        x.image();
        x.image();
        x.image();
        x.image();
        Check.due("trouble()", x.trouble(), 3);
        Check.tell(x, "post");
        Check.due("trouble()", x.trouble(), 4);
        x.close(0, false);
        Check.due("trouble()", x.trouble(), 5);
        x.undo();
        Check.due("trouble()", x.trouble(), 6);
        x.length(0);
        Check.due("trouble()", x.trouble(), 0);
    }

    private static void promise51AskingLeavesIt() {
        WhalePost x = new WhalePost();
        x.undo();
        Check.due("trouble()", x.trouble(), 6);
        Check.due("trouble() again", x.trouble(), 6);
    }

    private static void promise51MinusTwoIsNoRefusal() {
        WhalePost x = Check.posted(Check.HEAD + "island a ab;island b baa;way a b days 5 open 15;whale u cow at a keeps 0 lost 0;"
            + "whale v cow at a keeps 0 lost 0;box p from a to b weighs 99 day 0;box q from a to a weighs 1 day 0");
        x.close(0, true);
        x.tune(1, 0, 1);
        minusTwo(x, "box(0, 4)", troubled(x).box(0, 4));
        minusTwo(x, "heard(1)", troubled(x).heard(1));
        minusTwo(x, "way(0, 1)", troubled(x).way(0, 1));
        minusTwo(x, "sets(0, 0, 0)", troubled(x).sets(0, 0, 0));
        minusTwo(x, "apart(0, 1)", troubled(x).apart(0, 1));
        minusTwo(x, "bear()", troubled(x).bear());
        minusTwo(x, "fresh(2, 5)", troubled(x).fresh(2, 5));
        minusTwo(x, "heardIn(1, 9)", troubled(x).heardIn(1, 9));
        minusTwo(x, "strange(0)", troubled(x).strange(0));
        minusTwo(x, "arrival(0, 0, 1, 0)", troubled(x).arrival(0, 0, 1, 0));
        minusTwo(x, "brings(0, 0)", troubled(x).brings(0, 0));
        minusTwo(x, "soonest(0)", troubled(x).soonest(0));
        minusTwo(x, "surest(0)", troubled(x).surest(0));
        minusTwo(x, "matchOf(0)", troubled(x).matchOf(0));
        minusTwo(x, "meet(0, 0, 1, 1)", troubled(x).meet(0, 0, 1, 1));
        minusTwo(x, "round(0)", troubled(x).round(0));
    }

    private static WhalePost troubled(WhalePost x) {
        Check.refused(x, "length(-1)", x.length(-1), 1);
        return x;
    }

    private static void minusTwo(WhalePost x, String call, int got) {
        Check.granted(x, call, got, -2);
    }

    private static void promise51EveryGrantedCallClearsIt() {
        String[] calls = {"whale", "box", "length", "note", "sung", "heard", "way", "season", "sets", "sent", "apart", "bear", "mixed", "fresh",
            "byTurns", "near", "asNear", "heardIn", "strange", "arrival", "brings", "soonest", "surest", "by", "registered", "match", "matchDays",
            "matchOf", "meet", "fits", "reach", "pier", "watch", "round", "roundAt", "decade", "send", "tune", "years", "close", "undo", "image", "back"};
        WhalePost x = Check.posted(PAIR + "box p from a to b weighs 1 day 0;box q from b to a weighs 1 day 0");
        for (String call : calls) {
            x.length(-1);
            ask(x, call);
            Check.due("trouble() behind " + call, x.trouble(), 0);
        }
    }

    private static void promise51CallsThatCannotBeRefusedLeaveIt() {
        WhalePost x = Check.posted(Check.WORLD);
        x.length(-1);
        x.feed(0, 0, 0, 0, 0);
        x.fault();
        x.where();
        x.led(0);
        x.size(0);
        Check.due("trouble()", x.trouble(), 1);
    }

    // ---- what the tests share

    private static WhalePost inYear(int year) {
        WhalePost x = Check.posted(Check.WORLD);
        for (int left = year; left > 0; left -= Math.min(left, 99)) {
            x.years(Math.min(left, 99));
        }
        Check.due("size(9)", x.size(9), year);
        return x;
    }

    private static boolean throwsNoSuch(WhalePost x, int i) {
        try {
            x.led(i);
        } catch (NoSuchElementException e) {
            return true;
        }
        return false;
    }

    private static void ask(WhalePost x, String call) {
        switch (call) {
            case "whale": x.whale(0, 0); break;
            case "box": x.box(0, 0); break;
            case "length": x.length(0); break;
            case "note": x.note(0, 0); break;
            case "sung": x.sung(0, 0); break;
            case "heard": x.heard(0); break;
            case "way": x.way(0, 1); break;
            case "season": x.season(0); break;
            case "sets": x.sets(0, 0, 0); break;
            case "sent": x.sent(0); break;
            case "apart": x.apart(0, 1); break;
            case "bear": x.bear(); break;
            case "mixed": x.mixed(); break;
            case "fresh": x.fresh(2, 1); break;
            case "byTurns": x.byTurns(2, 1); break;
            case "near": x.near(0); break;
            case "asNear": x.asNear(0); break;
            case "heardIn": x.heardIn(0, 0); break;
            case "strange": x.strange(0); break;
            case "arrival": x.arrival(0, 0, 1, 0); break;
            case "brings": x.brings(0, 0); break;
            case "soonest": x.soonest(0); break;
            case "surest": x.surest(0); break;
            case "by": x.by(0, 0); break;
            case "registered": x.registered(0, true); break;
            default: askMore(x, call); break;
        }
    }

    private static void askMore(WhalePost x, String call) {
        switch (call) {
            case "match": x.match(); break;
            case "matchDays": x.matchDays(); break;
            case "matchOf": x.matchOf(0); break;
            case "meet": x.meet(0, 0, 1, 1); break;
            case "fits": x.fits(); break;
            case "reach": x.reach(0, 0); break;
            case "pier": x.pier(0); break;
            case "watch": x.watch(0, 1); break;
            case "round": x.round(0); break;
            case "roundAt": x.roundAt(0, 0); break;
            case "decade": x.decade(0, 0); break;
            case "send": x.send(0, 0); break;
            case "tune": x.tune(1, 0, 1); break;
            case "years": x.years(1); break;
            case "close": x.close(0, true); break;
            case "undo": x.undo(); break;
            case "image": x.image(); break;
            case "back": x.back(0); break;
            default: Check.due("there is a call " + call, false, true); break;
        }
    }
}
