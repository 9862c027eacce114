import java.util.NoSuchElementException;

/** Promises 42 to 51: acts, undoing, images, and what is told. */
public final class ActsTest {
    public static void main(String[] args) {
        send();
        tune();
        years();
        close();
        undo();
        twelveAreKept();
        images();
        led();
        size();
        trouble();
        Check.end();
    }

    private static void send() {
        WhalePost x = Check.posted(Check.WORLD);
        Check.granted(x, "send(2, 2)", x.send(2, 2), 28);
        Check.granted(x, "whale(2, 1)", x.whale(2, 1), 0);
        Check.granted(x, "whale(2, 2)", x.whale(2, 2), 28);
        Check.granted(x, "box(2, 4)", x.box(2, 4), 28);
        Check.granted(x, "box(2, 5)", x.box(2, 5), 0);
        Check.granted(x, "brings(2, 0) from there on", x.brings(2, 0), 53);
        Check.refused(x, "send(2, 2), SENT", x.send(2, 2), 5);
        Check.refused(x, "send(0, 1), too heavy", x.send(0, 1), 5);
        Check.refused(x, "send(4, 0)", x.send(4, 0), 1);
        Check.refused(x, "send(0, 3)", x.send(0, 3), 1);
        Check.refused(x, "send(-1, 0)", x.send(-1, 0), 1);
        Check.due("size(10)", x.size(10), 1);
        x.years(10);
        Check.granted(x, "send(1, 1), heard by bo now", x.send(1, 1), 10);
        Check.granted(x, "box(1, 5)", x.box(1, 5), 1);
        Check.granted(x, "whale(1, 1)", x.whale(1, 1), 1);
        Check.granted(x, "sent(1)", x.sent(1), 1);
    }

    private static void tune() {
        WhalePost x = Check.posted(Check.WORLD);
        Check.granted(x, "tune(0, 0, 0)", x.tune(0, 0, 0));
        Check.granted(x, "sung(0, 0)", x.sung(0, 0), 0);
        Check.granted(x, "sung(0, 1)", x.sung(0, 1), 2);
        Check.granted(x, "tune(0, 2, 2)", x.tune(0, 2, 2));
        Check.granted(x, "sung(0, 2)", x.sung(0, 2), 2);
        Check.refused(x, "tune(0, 2, 2) again", x.tune(0, 2, 2), 5);
        Check.refused(x, "tune(0, 2, 3)", x.tune(0, 2, 3), 2);
        Check.refused(x, "tune(0, 2, -1)", x.tune(0, 2, -1), 2);
        Check.refused(x, "tune(0, 3, 3)", x.tune(0, 3, 3), 1);
        Check.refused(x, "tune(0, -1, 0)", x.tune(0, -1, 0), 1);
        Check.refused(x, "tune(3, 0, 0)", x.tune(3, 0, 0), 1);
        Check.due("size(10)", x.size(10), 2);
        x.send(1, 1);
        Check.refused(x, "tune(1, 0, 0), SENT", x.tune(1, 0, 0), 5);
        Check.refused(x, "tune(1, 0, 3), SENT", x.tune(1, 0, 3), 2);
        Check.granted(x, "tune(2, 0, 2), not SENT", x.tune(2, 0, 2));
    }

    private static void years() {
        WhalePost x = Check.posted(Check.WORLD);
        Check.granted(x, "years(1)", x.years(1), 1);
        Check.granted(x, "years(99)", x.years(99), 100);
        Check.refused(x, "years(0)", x.years(0), 2);
        Check.refused(x, "years(100)", x.years(100), 2);
        Check.refused(x, "years(-1)", x.years(-1), 2);
        for (int k = 0; k < 99; k++) {
            x.years(99);
        }
        Check.due("size(9)", x.size(9), 9901);
        Check.refused(x, "years(99)", x.years(99), 3);
        Check.refused(x, "years(100) in year 9,901", x.years(100), 2);
        Check.granted(x, "years(98)", x.years(98), 9999);
        Check.refused(x, "years(1)", x.years(1), 3);
        Check.granted(x, "heardIn(0, 99) in year 10,098", x.heardIn(0, 99), x.heardIn(0, 92));
        WhalePost none = new WhalePost();
        Check.refused(none, "years(0)", none.years(0), 1);
    }

    private static void close() {
        WhalePost x = Check.posted(Check.WORLD);
        Check.refused(x, "close(0, false)", x.close(0, false), 5);
        Check.granted(x, "close(0, true)", x.close(0, true));
        Check.refused(x, "close(0, true) again", x.close(0, true), 5);
        Check.granted(x, "way(0, 1)", x.way(0, 1), -2);
        Check.granted(x, "way(0, 2)", x.way(0, 2), 50);
        Check.granted(x, "close(2, true)", x.close(2, true));
        Check.granted(x, "close(0, false)", x.close(0, false));
        Check.granted(x, "way(0, 1)", x.way(0, 1), 10);
        Check.granted(x, "way(0, 2)", x.way(0, 2), -2);
        Check.refused(x, "close(3, true)", x.close(3, true), 1);
        Check.refused(x, "close(-1, false)", x.close(-1, false), 1);
        Check.refused(x, "close(32, true)", x.close(32, true), 1);
        Check.due("size(10)", x.size(10), 3);
    }

    private static void undo() {
        WhalePost x = Check.posted(Check.WORLD);
        Check.refused(x, "undo()", x.undo(), 6);
        x.send(1, 0);
        x.tune(1, 0, 0);
        x.years(10);
        x.close(1, true);
        Check.refused(x, "close(1, true) refused", x.close(1, true), 5);
        Check.due("size(10)", x.size(10), 4);
        Check.granted(x, "undo() of close", x.undo());
        Check.granted(x, "way(1, 2)", x.way(1, 2), 20);
        Check.granted(x, "undo() of years", x.undo());
        Check.due("size(9)", x.size(9), 0);
        Check.granted(x, "sung(1, 0)", x.sung(1, 0), 0);
        Check.granted(x, "undo() of tune", x.undo());
        Check.granted(x, "sung(1, 0)", x.sung(1, 0), 1);
        Check.granted(x, "box(0, 4)", x.box(0, 4), 15);
        Check.granted(x, "undo() of send", x.undo());
        Check.granted(x, "box(0, 4)", x.box(0, 4), -2);
        Check.granted(x, "box(0, 5)", x.box(0, 5), -2);
        Check.granted(x, "whale(1, 1)", x.whale(1, 1), 0);
        Check.granted(x, "whale(1, 2)", x.whale(1, 2), 0);
        Check.due("size(10)", x.size(10), 0);
        Check.refused(x, "undo()", x.undo(), 6);
    }

    private static void twelveAreKept() {
        WhalePost x = Check.posted(Check.WORLD);
        for (int k = 1; k <= 15; k++) {
            x.years(k);
            Check.due("size(10)", x.size(10), Math.min(k, 12));
        }
        int year = 120;
        for (int k = 15; k > 3; k--) {
            Check.granted(x, "undo()", x.undo());
            year -= k;
            Check.due("size(9)", x.size(9), year);
        }
        Check.refused(x, "undo() of a thirteenth", x.undo(), 6);
        Check.due("size(9)", x.size(9), 6);
        x.years(5);
        Check.granted(x, "undo() of a later one", x.undo());
        Check.due("size(9)", x.size(9), 6);
    }

    private static void images() {
        WhalePost x = Check.posted(Check.WORLD);
        Check.granted(x, "image()", x.image(), 0);
        x.send(1, 0);
        x.tune(1, 0, 0);
        x.years(10);
        x.close(0, true);
        Check.granted(x, "image()", x.image(), 1);
        Check.due("size(10), an image is no act", x.size(10), 4);
        Check.granted(x, "undo()", x.undo());
        Check.due("size(11)", x.size(11), 2);
        Check.granted(x, "back(1)", x.back(1));
        Check.due("size(10)", x.size(10), 0);
        Check.refused(x, "undo()", x.undo(), 6);
        Check.granted(x, "way(0, 1)", x.way(0, 1), -2);
        Check.due("size(9)", x.size(9), 10);
        Check.granted(x, "sung(1, 0)", x.sung(1, 0), 0);
        Check.granted(x, "box(0, 4)", x.box(0, 4), 15);
        Check.granted(x, "back(0)", x.back(0));
        Check.granted(x, "way(0, 1)", x.way(0, 1), 10);
        Check.due("size(9)", x.size(9), 0);
        Check.granted(x, "sung(1, 0)", x.sung(1, 0), 1);
        Check.granted(x, "box(0, 4)", x.box(0, 4), -2);
        Check.granted(x, "whale(1, 1)", x.whale(1, 1), 0);
        Check.due("size(11), all stay", x.size(11), 2);
        x.years(3);
        Check.granted(x, "image()", x.image(), 2);
        Check.refused(x, "image()", x.image(), 3);
        Check.refused(x, "back(3)", x.back(3), 1);
        Check.refused(x, "back(-1)", x.back(-1), 1);
        Check.due("size(10) stays", x.size(10), 1);
        x.years(1);
        Check.granted(x, "back(2)", x.back(2));
        Check.due("size(9)", x.size(9), 3);
        Check.granted(x, "back(1) again", x.back(1));
        Check.due("size(9)", x.size(9), 10);
        Check.feed(x, "post");
        x.back(0);
        Check.due("size(12): the tape is no part of it", x.size(12), 20);
        WhalePost none = new WhalePost();
        Check.refused(none, "image()", none.image(), 1);
        Check.refused(none, "back(0)", none.back(0), 1);
    }

    private static void led() {
        WhalePost x = Check.posted(Check.WORLD);
        leftBoxes(x, 0, 1, 2);
        x.send(2, 1);
        leftBoxes(x, 0, 2);
        x.send(1, 0);
        leftBoxes(x, 2);
        x.send(2, 2);
        leftBoxes(x);
        x.undo();
        leftBoxes(x, 2);
        leftBoxes(new WhalePost());
    }

    private static void leftBoxes(WhalePost x, int... boxes) {
        int trouble = x.trouble();
        for (int i = 0; i < boxes.length; i++) {
            Check.due("led(" + i + ")", x.led(i), boxes[i]);
        }
        int[] wrong = {-1, boxes.length, 8, Integer.MIN_VALUE, Integer.MAX_VALUE};
        for (int i : wrong) {
            boolean thrown = false;
            try {
                x.led(i);
            } catch (NoSuchElementException e) {
                thrown = true;
            }
            Check.due("led(" + i + ") throws", thrown, true);
        }
        Check.due("trouble() isn't led's", x.trouble(), trouble);
    }

    private static void size() {
        WhalePost x = Check.posted(Check.WORLD);
        x.years(4);
        x.years(5);
        x.image();
        Check.feed(x, "island");
        int[] want = {3, 1, 10, 50, 4, 3, 4, 3, 2, 9, 2, 1, 20};
        x.length(9);
        for (int what = 0; what < want.length; what++) {
            Check.due("size(" + what + ")", x.size(what), want[what]);
        }
        Check.due("size(13)", x.size(13), -1);
        Check.due("size(-1)", x.size(-1), -1);
        Check.due("trouble() isn't size's", x.trouble(), 1);
    }

    private static void trouble() {
        WhalePost x = Check.posted(Check.WORLD);
        x.years(0);
        Check.due("trouble()", x.trouble(), 2);
        Check.due("trouble() again", x.trouble(), 2);
        x.feed(0, 0, 0, 0, 0);
        x.fault();
        x.where();
        Check.due("trouble() of years(0) still", x.trouble(), 2);
        x.brings(0, 1);
        Check.due("trouble(): -2 is no refusal", x.trouble(), 0);
    }
}
