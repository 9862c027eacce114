import java.math.BigInteger;
import java.util.List;
import java.util.Random;

/** Worlds drawn by a fixed seed: all that is asked of them is compared with the plain model's answers. */
public final class RandomWorldsTest {
    private static final int WORLDS = 1500;

    private final Random random;
    private final Model model;
    private final WhalePost x;
    private final String at;

    private RandomWorldsTest(int number) {
        random = new Random(number);
        model = new Model(random);
        x = new WhalePost();
        at = "world " + number + ": ";
    }

    public static void main(String[] args) {
        int told = 0;
        for (int number = 0; number < WORLDS; number++) {
            RandomWorldsTest test = new RandomWorldsTest(number);
            String text = test.model.text();
            if (text.length() <= 1000) {
                told++;
                Check.granted(test.x, test.at + "post() of " + text, Check.tell(test.x, text), test.model.songs.size());
                test.ask(number % 5);
            }
        }
        Check.due("enough worlds were told", told > WORLDS / 2, true);
        Check.end();
    }

    /** One part each, as an object is good for 512 calls. */
    private void ask(int part) {
        act(random.nextInt(9));
        switch (part) {
            case 0: askSongs(); break;
            case 1: askBoxes(); break;
            case 2: askWhales(); break;
            case 3: askWays(); break;
            default: askSpouts(); break;
        }
    }

    private void due(String call, long got, long want) {
        Check.granted(x, at + call, got, want);
    }

    private void askSongs() {
        for (int i = 0; i < model.songs.size(); i++) {
            int[] song = model.songIn(i, model.year);
            due("length", x.length(i), song.length);
            for (int k = 0; k < song.length; k++) {
                due("note(" + i + ", " + k + ")", x.note(i, k), song[k]);
            }
            due("strange(" + i + ")", x.strange(i), model.strange(i));
            for (int j = 0; j < model.songs.size(); j++) {
                int[] other = model.songIn(j, model.year);
                due("apart", x.apart(i, j), song.length == other.length ? Model.unlike(song, other) : -2);
            }
        }
        due("bear()", x.bear(), model.bear());
        due("mixed()", x.mixed(), model.mixed());
        for (int tries = 0; tries < 3; tries++) {
            int length = 2 + random.nextInt(tries == 0 ? 4 : 3);
            int apart = 1 + random.nextInt(5);
            List<Integer> turns = model.byTurns(length, apart);
            due("byTurns(" + length + ", " + apart + ")", x.byTurns(length, apart), turns.size());
            due("fresh(" + length + ", " + apart + ")", x.fresh(length, apart), turns.isEmpty() ? -2 : turns.get(0));
        }
        int seed = random.nextInt(65537);
        int n = random.nextInt(51);
        due("decade(" + seed + ", " + n + ")", x.decade(seed, n), model.decade(seed, n));
    }

    private void askBoxes() {
        int[][] all = model.bringsAll();
        for (int b = 0; b < model.boxes.size(); b++) {
            int[] song = model.boxSong[b];
            for (int k = 0; k < song.length; k++) {
                due("sung(" + b + ", " + k + ")", x.sung(b, k), song[k]);
            }
            due("heard(" + b + ")", x.heard(b), model.heard(song, model.year));
            int n = random.nextInt(100);
            due("heardIn(" + b + ", " + n + ")", x.heardIn(b, n), model.heard(song, model.year + n));
            due("near(" + b + ")", x.near(b), model.near(song, model.year));
            due("asNear(" + b + ")", x.asNear(b), model.nearest(song, model.year).size());
            due("box(" + b + ", 4)", x.box(b, 4), model.came[b]);
            due("box(" + b + ", 5)", x.box(b, 5), model.got[b]);
            askBringers(b, all[b]);
        }
        if (model.boxes.size() <= 6 || model.whales.size() <= 3) {
            askMatch();
        }
        if (model.boxes.size() > 1 && model.whales.size() > 1) {
            askMeet();
        }
    }

    private void askBringers(int b, int[] days) {
        int soonest = -2;
        int surest = -2;
        int second = -2;
        int by = 0;
        int limit = random.nextInt(1500);
        for (int w = 0; w < days.length; w++) {
            due("brings(" + w + ", " + b + ")", x.brings(w, b), days[w]);
            if (days[w] != -2) {
                soonest = soonest == -2 || days[w] < days[soonest] ? w : soonest;
                by |= days[w] <= limit ? 1 << w : 0;
                if (surest == -2 || lost(w) < lost(surest)) {
                    second = surest;
                    surest = w;
                } else if (second == -2 || lost(w) < lost(second)) {
                    second = w;
                }
            }
        }
        due("soonest(" + b + ")", x.soonest(b), soonest);
        due("surest(" + b + ")", x.surest(b), surest);
        due("by(" + b + ", " + limit + ")", x.by(b, limit), by);
        if (surest == -2) {
            Check.refused(x, at + "registered(" + b + ")", x.registered(b, true), 6);
        } else {
            long upper = x.registered(b, false);
            long lower = x.registered(b, true);
            long lostBoth = lost(surest) * (second == -2 ? 100 : lost(second));
            Check.due(at + "registered(" + b + ") is so", upper * 10000, lower * (10000 - lostBoth));
            BigInteger common = BigInteger.valueOf(upper).gcd(BigInteger.valueOf(lower));
            Check.due(at + "registered(" + b + ") is lowest", common.longValue(), 1);
        }
    }

    private int lost(int w) {
        return model.whales.get(w)[3];
    }

    private void askMatch() {
        int[] match = model.match();
        due("match()", x.match(), match[0]);
        due("matchDays()", x.matchDays(), match[1]);
        for (int b = 0; b < model.boxes.size(); b++) {
            due("matchOf(" + b + ")", x.matchOf(b), match[2 + b]);
        }
    }

    private void askMeet() {
        for (int tries = 0; tries < 10; tries++) {
            int b = random.nextInt(model.boxes.size());
            int c = random.nextInt(model.boxes.size());
            int w = random.nextInt(model.whales.size());
            int y = random.nextInt(model.whales.size());
            String call = "meet(" + b + ", " + w + ", " + c + ", " + y + ")";
            if (b == c || w == y) {
                Check.refused(x, at + call, x.meet(b, w, c, y), 1);
            } else {
                due(call, x.meet(b, w, c, y), model.meet(b, w, c, y));
            }
        }
    }

    private void askWhales() {
        for (int w = 0; w < model.whales.size(); w++) {
            int kind = model.whales.get(w)[0];
            due("whale(" + w + ", 1)", x.whale(w, 1), model.at[w]);
            due("whale(" + w + ", 2)", x.whale(w, 2), model.free[w]);
            int day = random.nextInt(random.nextBoolean() ? 400 : 10000);
            int from = random.nextInt(model.songs.size());
            int[] days = model.days(kind, from, day);
            for (int to = 0; to < days.length; to++) {
                due("arrival(" + w + ", " + from + ", " + to + ", " + day + ")", x.arrival(w, from, to, day), days[to]);
            }
            for (int k = 0; k < model.ways.size(); k++) {
                due("sets(" + w + ", " + k + ", " + day + ")", x.sets(w, k, day), model.sets(kind, k, day));
            }
        }
    }

    private void askWays() {
        for (int i = 0; i < model.songs.size(); i++) {
            for (int j = 0; j < model.songs.size(); j++) {
                if (i != j) {
                    int way = model.wayOf(i, j);
                    due("way(" + i + ", " + j + ")", x.way(i, j), way < 0 || model.closed[way] ? -2 : model.ways.get(way)[2]);
                }
            }
            int[] round = model.round(i);
            due("round(" + i + ")", x.round(i), round == null ? -2 : round[0]);
            for (int k = 0; k < model.songs.size(); k++) {
                if (round == null) {
                    Check.refused(x, at + "roundAt", x.roundAt(i, k), 6);
                } else {
                    due("roundAt(" + i + ", " + k + ")", x.roundAt(i, k), round[1 + k]);
                }
            }
        }
        if (model.songs.size() > 1) {
            int i = random.nextInt(model.songs.size());
            int j = (i + 1 + random.nextInt(model.songs.size() - 1)) % model.songs.size();
            due("watch(" + i + ", " + j + ")", x.watch(i, j), model.watch(i, j));
        }
    }

    private void askSpouts() {
        due("fits()", x.fits(), model.fits());
        for (int w = 0; w < model.whales.size(); w++) {
            int day = random.nextInt(2000);
            due("reach(" + w + ", " + day + ")", x.reach(w, day), model.reach(w, day));
        }
        int day = random.nextInt(random.nextBoolean() ? 100 : 1000);
        due("pier(" + day + ")", x.pier(day), model.pier(day));
    }

    private void act(int times) {
        for (int tries = 0; tries < times; tries++) {
            int act = random.nextInt(4);
            if (act == 0 && model.boxes.size() > 0 && model.whales.size() > 0) {
                sendOne();
            } else if (act == 1 && model.boxes.size() > 0) {
                tuneOne();
            } else if (act == 2) {
                int n = 1 + random.nextInt(random.nextBoolean() ? 5 : 99);
                model.year += n;
                due("years(" + n + ")", x.years(n), model.year);
            } else if (act == 3 && model.ways.size() > 0) {
                int k = random.nextInt(model.ways.size());
                model.closed[k] = !model.closed[k];
                due("close(" + k + ")", x.close(k, model.closed[k]) ? 1 : 0, 1);
            }
        }
    }

    private void sendOne() {
        int w = random.nextInt(model.whales.size());
        int b = random.nextInt(model.boxes.size());
        int day = model.brings(w, b);
        if (day == -2) {
            Check.refused(x, at + "send(" + w + ", " + b + ")", x.send(w, b), 5);
            return;
        }
        due("send(" + w + ", " + b + ")", x.send(w, b), day);
        model.came[b] = day;
        model.got[b] = model.heard(model.boxSong[b], model.year);
        model.at[w] = model.got[b];
        model.free[w] = day;
    }

    private void tuneOne() {
        int b = random.nextInt(model.boxes.size());
        int k = random.nextInt(model.boxSong[b].length);
        int note = random.nextInt(model.notes);
        String call = "tune(" + b + ", " + k + ", " + note + ")";
        if (model.came[b] != -2 || model.boxSong[b][k] == note) {
            Check.refused(x, at + call, x.tune(b, k, note), 5);
        } else {
            due(call, x.tune(b, k, note) ? 1 : 0, 1);
            model.boxSong[b][k] = note;
        }
    }
}
