import java.util.NoSuchElementException;
import java.util.Random;

/** Wild arguments and broken texts: nothing is thrown but what led() owes, and refusals change nothing. */
public final class WildCallsTest {
    private static final int[] EDGES = {Integer.MIN_VALUE, Integer.MAX_VALUE, -2, -1, 0, 1, 2, 3, 4, 5, 6, 7, 8, 12, 13, 31, 32, 64,
        99, 100, 9999, 10000, 65536, 65537, 99999, 100000};

    /** With all that is looked at round a call, an object's 512 calls are not used up. */
    private static final int CALLS = 45;

    private final Random random;
    private final WhalePost x = new WhalePost();

    private WildCallsTest(int seed) {
        random = new Random(seed);
    }

    public static void main(String[] args) {
        for (int seed = 0; seed < 4000; seed++) {
            new WildCallsTest(seed).run(seed % 4 == 0 ? "" : new Model(new Random(seed)).text());
        }
        for (int seed = 0; seed < 3000; seed++) {
            breakText(new Random(seed));
        }
        Check.end();
    }

    private void run(String text) {
        if (!text.isEmpty() && text.length() <= 1000) {
            Check.tell(x, text);
        }
        for (int call = 0; call < CALLS; call++) {
            int before = state();
            int which = random.nextInt(46);
            long answer = which < 23 ? early(which) : late(which);
            boolean owned = which != 0 && which != 4;
            if (owned && answer == -1) {
                Check.due("trouble() of call " + which + " is told", x.trouble() >= 1 && x.trouble() <= 6, true);
                Check.due("call " + which + " changed nothing", state(), before);
            } else if (owned) {
                Check.due("trouble() of call " + which, x.trouble(), 0);
            }
        }
    }

    private int state() {
        return x.size(10) + 100 * x.size(9) + 1000000 * x.size(11);
    }

    private int any() {
        return random.nextInt(3) == 0 ? EDGES[random.nextInt(EDGES.length)] : random.nextInt(9);
    }

    private boolean either() {
        return random.nextBoolean();
    }

    private static int told(boolean answer) {
        return answer ? 1 : -1;
    }

    private long early(int which) {
        switch (which) {
            case 0: return x.feed(any(), any(), any(), any(), any());
            case 1: return x.sung(any(), any());
            case 2: return x.whale(any(), any());
            case 3: return x.box(any(), any());
            case 4: return led();
            case 5: return x.length(any());
            case 6: return x.note(any(), any());
            case 7: return x.heard(any());
            case 8: return x.way(any(), any());
            case 9: return x.season(any());
            case 10: return x.sets(any(), any(), any());
            case 11: return x.sent(any());
            case 12: return x.apart(any(), any());
            case 13: return x.bear();
            case 14: return x.mixed();
            case 15: return x.fresh(any(), any());
            case 16: return x.byTurns(any(), any());
            case 17: return x.near(any());
            case 18: return x.asNear(any());
            case 19: return x.heardIn(any(), any());
            case 20: return x.strange(any());
            case 21: return x.arrival(any(), any(), any(), any());
            default: return x.brings(any(), any());
        }
    }

    private long late(int which) {
        switch (which) {
            case 23: return x.soonest(any());
            case 24: return x.surest(any());
            case 25: return x.by(any(), any());
            case 26: return x.registered(any(), either());
            case 27: return x.match();
            case 28: return x.matchDays();
            case 29: return x.matchOf(any());
            case 30: return x.meet(any(), any(), any(), any());
            case 31: return x.fits();
            case 32: return x.reach(any(), any());
            case 33: return x.pier(any());
            case 34: return x.watch(any(), any());
            case 35: return x.round(any());
            case 36: return x.roundAt(any(), any());
            case 37: return x.decade(any(), any());
            case 38: return x.send(any(), any());
            case 39: return told(x.tune(any(), any(), any()));
            case 40: return x.years(any());
            case 41: return told(x.close(any(), either()));
            case 42: return told(x.undo());
            case 43: return x.image();
            case 44: return told(x.back(any()));
            default: return either() ? x.post(any()) : x.post(1001);
        }
    }

    private long led() {
        try {
            return x.led(any());
        } catch (NoSuchElementException e) {
            return -1;
        }
    }

    /** A fault is the first from the left: the bytes ahead of its place, told alone, have none but at their end. */
    private static void breakText(Random random) {
        StringBuilder text = new StringBuilder(new Model(random).text());
        for (int times = random.nextInt(3); times >= 0; times--) {
            int at = random.nextInt(text.length());
            int how = random.nextInt(4);
            if (how == 0) {
                text.deleteCharAt(at);
            } else if (how == 1) {
                text.insert(at, (char) random.nextInt(256));
            } else if (how == 2) {
                text.setCharAt(at, " ;0a9z".charAt(random.nextInt(6)));
            } else {
                text.setLength(at + 1);
            }
        }
        if (text.length() > 1000) {
            return;
        }
        WhalePost x = new WhalePost();
        int islands = Check.tell(x, text.toString());
        if (islands >= 1) {
            Check.due("fault() of " + text, x.fault(), 0);
            return;
        }
        Check.refused(x, "post() of " + text, islands, 4);
        int place = x.where();
        Check.due("fault() of " + text, x.fault() >= 1 && x.fault() <= 7, true);
        Check.due("where() of " + text, place >= 0 && place <= text.length(), true);
        WhalePost ahead = new WhalePost();
        Check.tell(ahead, text.substring(0, place));
        if (ahead.trouble() == 4) {
            Check.due("where() of what is ahead, " + text.substring(0, place), ahead.where(), place);
        }
    }
}
