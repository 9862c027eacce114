import java.util.ArrayList;
import java.util.Arrays;
import java.util.List;
import java.util.Random;

/** A world drawn at random, with the document's terms done in the longest and plainest way, to compare with. */
final class Model {
    final int notes;
    final int errors;
    final int drift;
    final int slip;
    final List<int[]> songs = new ArrayList<>();
    /** Rows: two islands, days, open. */
    final List<int[]> ways = new ArrayList<>();
    /** Rows: kind, home, keeps, lost. */
    final List<int[]> whales = new ArrayList<>();
    /** Rows: from, to, weighs, day. */
    final List<int[]> boxes = new ArrayList<>();
    /** Rows: whale, island, day. */
    final List<int[]> spouts = new ArrayList<>();

    int year = 0;
    boolean[] closed;
    int[] at;
    int[] free;
    int[] came;
    int[] got;
    int[][] boxSong;
    int taken;
    int arrived;

    Model(Random random) {
        notes = 2 + random.nextInt(3);
        errors = random.nextInt(4);
        drift = random.nextInt(3) == 0 ? random.nextInt(51) : random.nextInt(5);
        slip = random.nextInt(101);
        drawSongs(random);
        drawWays(random);
        for (int w = random.nextInt(6); w > 0; w--) {
            whales.add(new int[] {random.nextInt(4), random.nextInt(songs.size()), random.nextInt(100), random.nextInt(4) * 33});
        }
        for (int b = random.nextInt(9); b > 0; b--) {
            int weight = random.nextBoolean() ? 1 + random.nextInt(4) : 1 + random.nextInt(12);
            int day = random.nextBoolean() ? random.nextInt(30) : random.nextInt(1000);
            boxes.add(new int[] {random.nextInt(songs.size()), random.nextInt(songs.size()), weight, day});
        }
        drawSpouts(random);
        begin();
    }

    private void drawSongs(Random random) {
        int many = 1 + random.nextInt(7);
        int shortest = 2 + random.nextInt(4);
        for (int tries = 0; tries < 50 && songs.size() < many; tries++) {
            int[] song = new int[shortest + (random.nextInt(4) == 0 ? 1 : 0)];
            for (int k = 0; k < song.length; k++) {
                song[k] = random.nextInt(notes);
            }
            if (songs.stream().noneMatch(told -> Arrays.equals(told, song))) {
                songs.add(song);
            }
        }
    }

    private void drawWays(Random random) {
        int many = random.nextInt(13);
        for (int tries = 0; tries < 40 && ways.size() < many; tries++) {
            int i = random.nextInt(songs.size());
            int j = random.nextInt(songs.size());
            if (i != j && wayOf(i, j) < 0) {
                int days = random.nextBoolean() ? 1 + random.nextInt(5) : 1 + random.nextInt(99);
                ways.add(new int[] {i, j, days, random.nextBoolean() ? 15 : 1 + random.nextInt(15)});
            }
        }
    }

    private void drawSpouts(Random random) {
        int[] last = new int[whales.size()];
        Arrays.fill(last, -1);
        for (int s = whales.isEmpty() ? 0 : random.nextInt(9); s > 0; s--) {
            int w = random.nextInt(whales.size());
            last[w] += 1 + random.nextInt(random.nextBoolean() ? 40 : 300);
            spouts.add(new int[] {w, random.nextInt(songs.size()), last[w]});
        }
    }

    private void begin() {
        closed = new boolean[ways.size()];
        at = new int[whales.size()];
        free = new int[whales.size()];
        for (int w = 0; w < at.length; w++) {
            at[w] = whales.get(w)[1];
        }
        came = new int[boxes.size()];
        got = new int[boxes.size()];
        Arrays.fill(came, -2);
        Arrays.fill(got, -2);
        boxSong = new int[boxes.size()][];
        for (int b = 0; b < boxSong.length; b++) {
            boxSong[b] = songs.get(boxes.get(b)[1]).clone();
        }
    }

    String text() {
        String[] kinds = {"calf", "cow", "bull", "old"};
        StringBuilder text = new StringBuilder();
        text.append("post notes ").append(notes).append(" errors ").append(errors).append(" drift ").append(drift).append(" slip ").append(slip);
        for (int i = 0; i < songs.size(); i++) {
            text.append(";island ").append(name('i', i)).append(' ');
            for (int note : songs.get(i)) {
                text.append((char) ('a' + note));
            }
        }
        for (int[] way : ways) {
            text.append(";way ").append(name('i', way[0])).append(' ').append(name('i', way[1])).append(" days ").append(way[2]).append(" open ").append(way[3]);
        }
        for (int w = 0; w < whales.size(); w++) {
            int[] whale = whales.get(w);
            text.append(";whale ").append(name('w', w)).append(' ').append(kinds[whale[0]]).append(" at ").append(name('i', whale[1]));
            text.append(" keeps ").append(whale[2]).append(" lost ").append(whale[3]);
        }
        for (int b = 0; b < boxes.size(); b++) {
            int[] box = boxes.get(b);
            text.append(";box ").append(name('b', b)).append(" from ").append(name('i', box[0])).append(" to ").append(name('i', box[1]));
            text.append(" weighs ").append(box[2]).append(" day ").append(box[3]);
        }
        for (int[] spout : spouts) {
            text.append(";spout ").append(name('w', spout[0])).append(' ').append(name('i', spout[1])).append(" day ").append(spout[2]);
        }
        return text.toString();
    }

    private static String name(char sort, int number) {
        return "" + sort + (char) ('a' + number);
    }

    int wayOf(int i, int j) {
        for (int k = 0; k < ways.size(); k++) {
            int[] way = ways.get(k);
            if (way[0] == i && way[1] == j || way[0] == j && way[1] == i) {
                return k;
            }
        }
        return -2;
    }

    // ---- songs

    int[] songIn(int i, int inYear) {
        int[] song = songs.get(i).clone();
        for (int falls = drift == 0 ? 0 : inYear / drift; falls > 0; falls--) {
            for (int k = 0; k < song.length; k++) {
                song[k] = song[k] == 0 ? notes - 1 : song[k] - 1;
            }
        }
        return song;
    }

    static int unlike(int[] one, int[] other) {
        int count = 0;
        for (int k = 0; k < one.length; k++) {
            count += one[k] == other[k] ? 0 : 1;
        }
        return count;
    }

    int near(int[] song, int inYear) {
        int fewest = 99;
        for (int i = 0; i < songs.size(); i++) {
            if (songs.get(i).length == song.length) {
                fewest = Math.min(fewest, unlike(song, songIn(i, inYear)));
            }
        }
        return fewest;
    }

    List<Integer> nearest(int[] song, int inYear) {
        int fewest = near(song, inYear);
        List<Integer> all = new ArrayList<>();
        for (int i = 0; i < songs.size(); i++) {
            if (songs.get(i).length == song.length && unlike(song, songIn(i, inYear)) == fewest) {
                all.add(i);
            }
        }
        return all;
    }

    int heard(int[] song, int inYear) {
        List<Integer> all = nearest(song, inYear);
        return all.size() == 1 && near(song, inYear) <= errors ? all.get(0) : -2;
    }

    int strange(int i) {
        for (int n = 0; n <= 99; n++) {
            if (heard(songs.get(i), year + n) != i) {
                return n;
            }
        }
        return -2;
    }

    private List<int[]> allSongs(int length) {
        List<int[]> all = new ArrayList<>();
        all.add(new int[0]);
        for (int k = 0; k < length; k++) {
            List<int[]> longer = new ArrayList<>();
            for (int[] song : all) {
                for (int note = 0; note < notes; note++) {
                    int[] next = Arrays.copyOf(song, k + 1);
                    next[k] = note;
                    longer.add(next);
                }
            }
            all = longer;
        }
        return all;
    }

    int bear() {
        boolean like = false;
        int most = 99;
        for (int length = 2; length <= 6; length++) {
            int ofLength = length;
            if (songs.stream().filter(song -> song.length == ofLength).count() > 1) {
                like = true;
                int bears = 0;
                while (allBear(length, bears + 1)) {
                    bears++;
                }
                most = Math.min(most, bears);
            }
        }
        return like ? most : -2;
    }

    private boolean allBear(int length, int wrong) {
        for (int[] song : allSongs(length)) {
            for (int i = 0; i < songs.size(); i++) {
                if (songs.get(i).length == length && unlike(song, songIn(i, year)) <= wrong) {
                    List<Integer> all = nearest(song, year);
                    if (all.size() != 1 || all.get(0) != i) {
                        return false;
                    }
                }
            }
        }
        return true;
    }

    int mixed() {
        int pairs = 0;
        for (int i = 0; i < songs.size(); i++) {
            for (int j = i + 1; j < songs.size(); j++) {
                pairs += isMixed(i, j) ? 1 : 0;
            }
        }
        return pairs;
    }

    private boolean isMixed(int i, int j) {
        int[] one = songIn(i, year);
        int[] other = songIn(j, year);
        return one.length == other.length
            && allSongs(one.length).stream().anyMatch(song -> unlike(song, one) <= errors && unlike(song, other) <= errors);
    }

    List<Integer> byTurns(int length, int apart) {
        List<int[]> kept = new ArrayList<>();
        for (int i = 0; i < songs.size(); i++) {
            if (songs.get(i).length == length) {
                kept.add(songIn(i, year));
            }
        }
        List<int[]> all = allSongs(length);
        List<Integer> numbers = new ArrayList<>();
        for (int number = 0; number < all.size(); number++) {
            int[] song = all.get(number);
            if (kept.stream().allMatch(other -> unlike(song, other) >= apart)) {
                kept.add(song);
                numbers.add(number);
            }
        }
        return numbers;
    }

    int decade(long seed, int n) {
        int heard = 0;
        for (int inYear = year; inYear < year + n; inYear++) {
            for (int b = 0; b < boxes.size(); b++) {
                int[] song = boxSong[b].clone();
                seed = (75 * seed + 74) % 65537;
                if (seed % 100 < slip) {
                    seed = (75 * seed + 74) % 65537;
                    int place = (int) (seed % song.length);
                    seed = (75 * seed + 74) % 65537;
                    song[place] = (int) (seed % notes);
                }
                heard += heard(song, inYear) == boxes.get(b)[1] ? 1 : 0;
            }
        }
        return heard;
    }

    // ---- whales: day by day

    boolean setsOn(int kind, int way, int day) {
        return !closed[way] && (kind == 3 || (ways.get(way)[3] & 1 << day / 90 % 4) != 0);
    }

    int sets(int kind, int way, int day) {
        if (closed[way]) {
            return -2;
        }
        int first = day;
        while (!setsOn(kind, way, first)) {
            first++;
        }
        return first;
    }

    /** The first day at each island, -2 never. */
    int[] days(int kind, int from, int day) {
        int[] first = new int[songs.size()];
        Arrays.fill(first, -2);
        int horizon = 3200;
        boolean[][] there = new boolean[horizon + 200][songs.size()];
        there[0][from] = true;
        for (int d = 0; d < horizon; d++) {
            for (int i = 0; i < songs.size(); i++) {
                if (there[d][i]) {
                    there[d + 1][i] = true;
                    first[i] = first[i] == -2 ? day + d : first[i];
                    if (kind != 0 || i == from) {
                        leave(kind, i, day, d, there);
                    }
                }
            }
        }
        return first;
    }

    private void leave(int kind, int i, int day, int d, boolean[][] there) {
        for (int k = 0; k < ways.size(); k++) {
            int[] way = ways.get(k);
            if ((way[0] == i || way[1] == i) && setsOn(kind, k, day + d)) {
                there[d + (kind == 2 ? 2 : 1) * way[2]][way[0] + way[1] - i] = true;
            }
        }
    }

    int brings(int w, int b) {
        int[] whale = whales.get(w);
        int[] box = boxes.get(b);
        int carries = whale[0] == 0 ? 3 : whale[0] == 2 ? 99 : 9;
        int goal = heard(boxSong[b], year);
        if (came[b] != -2 || box[2] > carries || goal == -2) {
            return -2;
        }
        int comes = days(whale[0], at[w], free[w])[box[0]];
        if (comes == -2) {
            return -2;
        }
        taken = Math.max(comes, box[3]);
        arrived = days(whale[0], box[0], taken)[goal];
        return arrived == -2 ? -2 : arrived + whale[2];
    }

    int[][] bringsAll() {
        int[][] all = new int[boxes.size()][whales.size()];
        for (int b = 0; b < boxes.size(); b++) {
            for (int w = 0; w < whales.size(); w++) {
                all[b][w] = brings(w, b);
            }
        }
        return all;
    }

    /** The count, the sum of days, then the whale of each box. */
    int[] match() {
        int[] best = null;
        int[] pick = new int[boxes.size()];
        int[][] all = bringsAll();
        long tries = 1;
        for (int b = 0; b < boxes.size(); b++) {
            tries *= whales.size() + 1;
        }
        for (long t = 0; t < tries; t++) {
            long rest = t;
            for (int b = boxes.size() - 1; b >= 0; b--) {
                pick[b] = (int) (rest % (whales.size() + 1));
                rest /= whales.size() + 1;
            }
            int[] row = judged(pick, all);
            // The picks come in their order, none last, so that the first of like ones stays.
            if (row != null && (best == null || row[0] > best[0] || row[0] == best[0] && row[1] < best[1])) {
                best = row;
            }
        }
        return best;
    }

    private int[] judged(int[] pick, int[][] all) {
        int[] row = new int[2 + pick.length];
        int used = 0;
        for (int b = 0; b < pick.length; b++) {
            if (pick[b] == whales.size()) {
                row[2 + b] = -2;
            } else {
                if (all[b][pick[b]] == -2 || (used & 1 << pick[b]) != 0) {
                    return null;
                }
                used |= 1 << pick[b];
                row[0]++;
                row[1] += all[b][pick[b]];
                row[2 + b] = pick[b];
            }
        }
        return row;
    }

    int meet(int b, int w, int c, int x) {
        if (brings(w, b) == -2) {
            return -2;
        }
        int bTaken = taken;
        int bArrived = arrived;
        if (brings(x, c) == -2 || heard(boxSong[b], year) != boxes.get(c)[0] || heard(boxSong[c], year) != boxes.get(b)[0]) {
            return -2;
        }
        for (int day = 0; day < bArrived; day++) {
            if (day >= bTaken && day >= taken && day < arrived) {
                return day;
            }
        }
        return -2;
    }

    // ---- spouts

    int fits() {
        int bits = 0;
        for (int w = 0; w < whales.size(); w++) {
            int island = whales.get(w)[1];
            int day = 0;
            boolean fits = true;
            for (int[] spout : spouts) {
                if (spout[0] == w) {
                    int comes = days(whales.get(w)[0], island, day)[spout[1]];
                    fits &= comes != -2 && comes <= spout[2];
                    island = spout[1];
                    day = spout[2];
                }
            }
            bits |= fits ? 1 << w : 0;
        }
        return bits;
    }

    int reach(int w, int day) {
        int island = whales.get(w)[1];
        int from = 0;
        for (int[] spout : spouts) {
            if (spout[0] == w) {
                island = spout[1];
                from = spout[2];
            }
        }
        int bits = 0;
        int[] first = days(whales.get(w)[0], island, from);
        for (int i = 0; i < first.length; i++) {
            bits |= first[i] != -2 && first[i] <= day ? 1 << i : 0;
        }
        return bits;
    }

    int pier(int day) {
        int[] count = new int[songs.size()];
        for (int w = 0; w < whales.size(); w++) {
            int bits = reach(w, day);
            for (int i = 0; i < count.length; i++) {
                count[i] += bits >> i & 1;
            }
        }
        double half = Integer.bitCount(fits()) / 2.0;
        int best = 0;
        for (int i = 1; i < count.length; i++) {
            best = Math.abs(count[i] - half) < Math.abs(count[best] - half) ? i : best;
        }
        return best;
    }

    // ---- ways

    int watch(int i, int j) {
        for (int count = 0; count <= ways.size(); count++) {
            for (int bits = 0; bits < 1 << ways.size(); bits++) {
                if (Integer.bitCount(bits) == count && allOpen(bits) && shortest(bits)[i][j] == FAR) {
                    return bits;
                }
            }
        }
        return -2;
    }

    private boolean allOpen(int bits) {
        for (int k = 0; k < closed.length; k++) {
            if (closed[k] && (bits >> k & 1) != 0) {
                return false;
            }
        }
        return true;
    }

    private static final int FAR = 1 << 20;

    private int[][] shortest(int without) {
        int[][] days = new int[songs.size()][songs.size()];
        for (int i = 0; i < days.length; i++) {
            Arrays.fill(days[i], FAR);
            days[i][i] = 0;
            for (int turn = 0; turn < days.length; turn++) {
                for (int k = 0; k < ways.size(); k++) {
                    int[] way = ways.get(k);
                    if (!closed[k] && (without >> k & 1) == 0) {
                        days[i][way[0]] = Math.min(days[i][way[0]], days[i][way[1]] + way[2]);
                        days[i][way[1]] = Math.min(days[i][way[1]], days[i][way[0]] + way[2]);
                    }
                }
            }
            for (int j = 0; j < days.length; j++) {
                days[i][j] = Math.min(days[i][j], FAR);
            }
        }
        return days;
    }

    /** The days, then the order; null if there is none. */
    int[] round(int i) {
        List<int[]> orders = new ArrayList<>();
        goRound(new int[] {i}, orders);
        int[][] days = shortest(0);
        int[] best = null;
        for (int[] order : orders) {
            int[] row = new int[order.length + 1];
            System.arraycopy(order, 0, row, 1, order.length);
            for (int k = 1; k < order.length; k++) {
                row[0] += days[order[k - 1]][order[k]];
            }
            if (row[0] < FAR && (best == null || row[0] < best[0])) {
                best = row;
            }
        }
        return best;
    }

    private void goRound(int[] ahead, List<int[]> orders) {
        if (ahead.length == songs.size()) {
            orders.add(ahead);
        }
        for (int next = 0; next < songs.size(); next++) {
            int island = next;
            if (Arrays.stream(ahead).noneMatch(i -> i == island)) {
                int[] longer = Arrays.copyOf(ahead, ahead.length + 1);
                longer[ahead.length] = next;
                goRound(longer, orders);
            }
        }
    }
}
