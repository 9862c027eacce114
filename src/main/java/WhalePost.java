import java.util.Arrays;
import java.util.NoSuchElementException;

/** Post that whales carry among islands. The document's promises are named by number at each call. */
public final class WhalePost {
    public static final int NONE = -1;

    /** Nobody, never, no way: an answer that was given, where NONE is one that was refused. */
    private static final int NOBODY = -2;

    private static final int TAPE_ROOM = 1000;
    private static final int FEED_BYTES = 20;
    private static final int ISLAND_ROOM = 7;
    private static final int WAY_ROOM = 12;
    private static final int WHALE_ROOM = 5;
    private static final int BOX_ROOM = 8;
    private static final int SPOUT_ROOM = 8;
    private static final int UNDO_ROOM = 12;
    private static final int IMAGE_ROOM = 3;

    private static final int LAST_DAY_ASKED = 9999;
    private static final int LAST_DAY_FAR = 99999;
    private static final int LAST_YEAR = 9999;
    private static final int LAST_YEAR_AHEAD = 99;
    private static final int SEASON_DAYS = 90;
    private static final int SEASONS = 4;

    private static final int CALF = 0;
    private static final int COW = 1;
    private static final int BULL = 2;
    private static final int OLD = 3;
    private static final int[] CAN_CARRY = {3, 9, 99, 9};

    private static final int NO_TROUBLE = 0;
    private static final int NO_SUCH = 1;
    private static final int BAD_NUMBER = 2;
    private static final int NO_ROOM = 3;
    private static final int FAULTY = 4;
    private static final int NOT_SO = 5;
    private static final int THERE_IS_NONE = 6;

    private final byte[] tape = new byte[TAPE_ROOM];
    private int tapeSize = 0;
    private int trouble = NO_TROUBLE;
    private Post post = new Post();
    private Post draft = new Post();
    private final Reader reader = new Reader(tape, draft);
    private final Now now = new Now();
    private final Songs songs = new Songs(post);
    private final Sea sea = new Sea(post, now, songs);
    private final Paths paths = new Paths(post);
    private final Matching matching = new Matching();
    private final Now[] history = new Now[UNDO_ROOM];
    private int newest = 0;
    private int undoable = 0;
    private final Now[] images = new Now[IMAGE_ROOM];
    private int imageCount = 0;

    /** Promise 1. */
    public WhalePost() {
        for (int k = 0; k < UNDO_ROOM; k++) {
            history[k] = new Now();
        }
        for (int k = 0; k < IMAGE_ROOM; k++) {
            images[k] = new Now();
        }
    }

    // ---- the post

    /** Promise 2. */
    public int feed(int a, int b, int c, int d, int e) {
        if (tapeSize > TAPE_ROOM - FEED_BYTES) {
            return NONE;
        }
        appendBytes(a);
        appendBytes(b);
        appendBytes(c);
        appendBytes(d);
        appendBytes(e);
        return tapeSize;
    }

    /** Promise 3. */
    public int post(int n) {
        if (n < 0 || n > tapeSize) {
            return refused(BAD_NUMBER);
        }
        tapeSize = 0;
        if (!reader.readPost(n, draft)) {
            return refused(FAULTY);
        }
        takeDraft();
        return granted(post.islands);
    }

    /** Promise 4. */
    public int fault() {
        return reader.fault;
    }

    /** Promise 5. */
    public int where() {
        return trouble == FAULTY ? reader.place : NONE;
    }

    // ---- now

    /** Promise 6. */
    public int whale(int w, int what) {
        if (!isWhale(w)) {
            return refused(NO_SUCH);
        }
        switch (what) {
            case 0: return granted(post.whale[w].kind);
            case 1: return granted(now.whaleAt[w]);
            case 2: return granted(now.whaleFree[w]);
            case 3: return granted(post.whale[w].keeps);
            case 4: return granted(post.whale[w].lost);
            default: return refused(NO_SUCH);
        }
    }

    /** Promise 7. */
    public int box(int b, int what) {
        if (!isBox(b)) {
            return refused(NO_SUCH);
        }
        switch (what) {
            case 0: return granted(post.box[b].from);
            case 1: return granted(post.box[b].to);
            case 2: return granted(post.box[b].weighs);
            case 3: return granted(post.box[b].day);
            case 4: return granted(now.boxCame[b]);
            case 5: return granted(now.boxGot[b]);
            default: return refused(NO_SUCH);
        }
    }

    /** Promise 8. */
    public int length(int i) {
        return isIsland(i) ? granted(post.songLength[i]) : refused(NO_SUCH);
    }

    /** Promise 9. */
    public int note(int i, int k) {
        if (!isIsland(i) || k < 0 || k >= post.songLength[i]) {
            return refused(NO_SUCH);
        }
        return granted(noteAt(songs.songIn(i, now.year), post.songLength[i], k));
    }

    /** Promise 10. */
    public int sung(int b, int k) {
        if (!isNoteOfBox(b, k)) {
            return refused(NO_SUCH);
        }
        return granted(noteAt(now.boxSong[b], post.boxLength(b), k));
    }

    /** Promise 11. */
    public int heard(int b) {
        return isBox(b) ? granted(hearerIn(b, now.year)) : refused(NO_SUCH);
    }

    /** Promise 12. */
    public int way(int i, int j) {
        if (!areTwoIslands(i, j)) {
            return refused(NO_SUCH);
        }
        int way = post.wayBetween(i, j);
        if (way == NOBODY || now.isClosed(way)) {
            return granted(NOBODY);
        }
        return granted(post.way[way].days);
    }

    /** Promise 13. */
    public int season(int day) {
        if (!hasPost()) {
            return refused(NO_SUCH);
        }
        if (!isWithin(day, LAST_DAY_FAR)) {
            return refused(BAD_NUMBER);
        }
        return granted(day / SEASON_DAYS % SEASONS);
    }

    /** Promise 14. */
    public int sets(int w, int way, int day) {
        if (!isWhale(w) || !isWay(way)) {
            return refused(NO_SUCH);
        }
        if (!isWithin(day, LAST_DAY_ASKED)) {
            return refused(BAD_NUMBER);
        }
        if (now.isClosed(way)) {
            return granted(NOBODY);
        }
        return granted(sea.dayOfLeaving(post.whale[w].kind, post.way[way].open, day));
    }

    /** Promise 15. */
    public int sent(int what) {
        if (!hasPost() || what < 0 || what > 2) {
            return refused(NO_SUCH);
        }
        int sum = 0;
        for (int b = 0; b < post.boxes; b++) {
            if (now.isSent(b)) {
                sum += sentPart(b, what);
            }
        }
        return granted(sum);
    }

    // ---- songs

    /** Promise 16. */
    public int apart(int i, int j) {
        return isIsland(i) && isIsland(j) ? granted(songs.apartness(i, j)) : refused(NO_SUCH);
    }

    /** Promise 17. */
    public int bear() {
        return hasPost() ? granted(songs.bearable()) : refused(NO_SUCH);
    }

    /** Promise 18. */
    public int mixed() {
        return hasPost() ? granted(songs.mixedPairs()) : refused(NO_SUCH);
    }

    /** Promise 19. */
    public int fresh(int notes, int apart) {
        int refusal = refusalOfNewSong(notes, apart);
        if (refusal != NO_TROUBLE) {
            return refused(refusal);
        }
        songs.findNew(notes, apart, now.year, 1);
        return granted(songs.firstNew);
    }

    /** Promise 20. */
    public int byTurns(int notes, int apart) {
        int refusal = refusalOfNewSong(notes, apart);
        if (refusal != NO_TROUBLE) {
            return refused(refusal);
        }
        return granted(songs.findNew(notes, apart, now.year, Songs.NEW_ROOM));
    }

    /** Promise 21. */
    public int near(int b) {
        if (!isBox(b)) {
            return refused(NO_SUCH);
        }
        hearerIn(b, now.year);
        return granted(songs.fewestUnlike);
    }

    /** Promise 22. */
    public int asNear(int b) {
        if (!isBox(b)) {
            return refused(NO_SUCH);
        }
        hearerIn(b, now.year);
        return granted(songs.nearestCount);
    }

    /** Promise 23. */
    public int heardIn(int b, int n) {
        if (!isBox(b)) {
            return refused(NO_SUCH);
        }
        if (!isWithin(n, LAST_YEAR_AHEAD)) {
            return refused(BAD_NUMBER);
        }
        return granted(hearerIn(b, now.year + n));
    }

    /** Promise 24. */
    public int strange(int i) {
        if (!isIsland(i)) {
            return refused(NO_SUCH);
        }
        for (int n = 0; n <= LAST_YEAR_AHEAD; n++) {
            if (songs.hearerOf(post.song[i], post.songLength[i], now.year + n) != i) {
                return granted(n);
            }
        }
        return granted(NOBODY);
    }

    // ---- whales

    /** Promise 25. */
    public int arrival(int w, int from, int to, int day) {
        if (!isWhale(w) || !isIsland(from) || !isIsland(to)) {
            return refused(NO_SUCH);
        }
        if (!isWithin(day, LAST_DAY_ASKED)) {
            return refused(BAD_NUMBER);
        }
        return granted(sea.firstDayAt(post.whale[w].kind, from, to, day));
    }

    /** Promise 26. */
    public int brings(int w, int b) {
        return isWhale(w) && isBox(b) ? granted(sea.dayOfBringing(w, b)) : refused(NO_SUCH);
    }

    /** Promise 27. */
    public int soonest(int b) {
        return isBox(b) ? granted(sea.soonestBringer(b)) : refused(NO_SUCH);
    }

    /** Promise 28. */
    public int surest(int b) {
        return isBox(b) ? granted(sea.surestBringer(b, NOBODY)) : refused(NO_SUCH);
    }

    /** Promise 29. */
    public int by(int b, int day) {
        if (!isBox(b)) {
            return refused(NO_SUCH);
        }
        if (!isWithin(day, LAST_DAY_FAR)) {
            return refused(BAD_NUMBER);
        }
        return granted(sea.bringersBy(b, day));
    }

    /** Promise 30. */
    public long registered(int b, boolean lower) {
        if (!isBox(b)) {
            return refused(NO_SUCH);
        }
        int first = sea.surestBringer(b, NOBODY);
        if (first == NOBODY) {
            return refused(THERE_IS_NONE);
        }
        int lost = post.whale[first].lost;
        int of = 100;
        int second = sea.surestBringer(b, first);
        if (second != NOBODY) {
            lost *= post.whale[second].lost;
            of *= 100;
        }
        int common = commonDivisor(of, of - lost);
        return granted((lower ? of : of - lost) / common);
    }

    /** Promise 31. */
    public int match() {
        if (!hasPost()) {
            return refused(NO_SUCH);
        }
        solveMatch();
        return granted(matching.count);
    }

    /** Promise 32. */
    public int matchDays() {
        if (!hasPost()) {
            return refused(NO_SUCH);
        }
        solveMatch();
        return granted(matching.sumOfDays);
    }

    /** Promise 33. */
    public int matchOf(int b) {
        if (!isBox(b)) {
            return refused(NO_SUCH);
        }
        solveMatch();
        return granted(matching.whaleOf[b]);
    }

    /** Promise 34. */
    public int meet(int b, int w, int c, int x) {
        if (!isBox(b) || !isBox(c) || !isWhale(w) || !isWhale(x) || b == c || w == x) {
            return refused(NO_SUCH);
        }
        return granted(sea.dayOfMeeting(b, w, c, x));
    }

    // ---- spouts

    /** Promise 35. */
    public int fits() {
        return hasPost() ? granted(sea.fittingWhales()) : refused(NO_SUCH);
    }

    /** Promise 36. */
    public int reach(int w, int day) {
        if (!isWhale(w)) {
            return refused(NO_SUCH);
        }
        if (!isWithin(day, LAST_DAY_FAR)) {
            return refused(BAD_NUMBER);
        }
        return granted(sea.islandsReached(w, day));
    }

    /** Promise 37. */
    public int pier(int day) {
        if (!hasPost()) {
            return refused(NO_SUCH);
        }
        if (!isWithin(day, LAST_DAY_FAR)) {
            return refused(BAD_NUMBER);
        }
        return granted(sea.bestPier(day));
    }

    // ---- ways

    /** Promise 38. */
    public int watch(int i, int j) {
        return areTwoIslands(i, j) ? granted(paths.fewestToWatch(i, j, now.closed)) : refused(NO_SUCH);
    }

    /** Promise 39. */
    public int round(int i) {
        return isIsland(i) ? granted(paths.findRound(i, now.closed)) : refused(NO_SUCH);
    }

    /** Promise 40. */
    public int roundAt(int i, int k) {
        if (!isIsland(i) || !isIsland(k)) {
            return refused(NO_SUCH);
        }
        if (paths.findRound(i, now.closed) == NOBODY) {
            return refused(THERE_IS_NONE);
        }
        return granted(paths.order[k]);
    }

    // ---- decades

    /** Promise 41. */
    public int decade(int seed, int n) {
        if (!hasPost()) {
            return refused(NO_SUCH);
        }
        if (!isWithin(seed, Songs.DRAWS - 1) || !isWithin(n, 50)) {
            return refused(BAD_NUMBER);
        }
        songs.seed = seed;
        int heard = 0;
        for (int year = 0; year < n; year++) {
            heard += heardWithSlips(now.year + year);
        }
        return granted(heard);
    }

    // ---- acts

    /** Promise 42. */
    public int send(int w, int b) {
        if (!isWhale(w) || !isBox(b)) {
            return refused(NO_SUCH);
        }
        int day = sea.dayOfBringing(w, b);
        if (day == NOBODY) {
            return refused(NOT_SO);
        }
        keepForUndo();
        now.whaleAt[w] = sea.goal;
        now.whaleFree[w] = day;
        now.boxCame[b] = day;
        now.boxGot[b] = sea.goal;
        return granted(day);
    }

    /** Promise 43. */
    public boolean tune(int b, int k, int note) {
        if (!isNoteOfBox(b, k)) {
            return hasRefused(NO_SUCH);
        }
        if (!isWithin(note, post.notes - 1)) {
            return hasRefused(BAD_NUMBER);
        }
        int tuned = withNote(now.boxSong[b], post.boxLength(b), k, note);
        if (now.isSent(b) || tuned == now.boxSong[b]) {
            return hasRefused(NOT_SO);
        }
        keepForUndo();
        now.boxSong[b] = tuned;
        return hasGranted();
    }

    /** Promise 44. */
    public int years(int n) {
        if (!hasPost()) {
            return refused(NO_SUCH);
        }
        if (n < 1 || n > LAST_YEAR_AHEAD) {
            return refused(BAD_NUMBER);
        }
        if (now.year + n > LAST_YEAR) {
            return refused(NO_ROOM);
        }
        keepForUndo();
        now.year += n;
        return granted(now.year);
    }

    /** Promise 45. */
    public boolean close(int way, boolean is) {
        if (!isWay(way)) {
            return hasRefused(NO_SUCH);
        }
        if (now.isClosed(way) == is) {
            return hasRefused(NOT_SO);
        }
        keepForUndo();
        now.closed ^= 1 << way;
        return hasGranted();
    }

    /** Promise 46. */
    public boolean undo() {
        if (undoable == 0) {
            return hasRefused(THERE_IS_NONE);
        }
        now.copyFrom(history[newest]);
        newest = (newest + UNDO_ROOM - 1) % UNDO_ROOM;
        undoable--;
        return hasGranted();
    }

    /** Promise 47. */
    public int image() {
        if (!hasPost()) {
            return refused(NO_SUCH);
        }
        if (imageCount >= IMAGE_ROOM) {
            return refused(NO_ROOM);
        }
        images[imageCount].copyFrom(now);
        imageCount++;
        return granted(imageCount - 1);
    }

    /** Promise 48. */
    public boolean back(int image) {
        if (image < 0 || image >= imageCount) {
            return hasRefused(NO_SUCH);
        }
        now.copyFrom(images[image]);
        undoable = 0;
        return hasGranted();
    }

    // ---- what is told

    /** Promise 49. */
    public int led(int i) throws NoSuchElementException {
        int left = i;
        for (int b = 0; b < post.boxes && left >= 0; b++) {
            if (!now.isSent(b)) {
                if (left == 0) {
                    return b;
                }
                left--;
            }
        }
        throw new NoSuchElementException("no such box is left");
    }

    /** Promise 50. */
    public int size(int what) {
        switch (what) {
            case 0: return post.notes;
            case 1: return post.errors;
            case 2: return post.drift;
            case 3: return post.slip;
            case 4: return post.islands;
            case 5: return post.ways;
            case 6: return post.whales;
            case 7: return post.boxes;
            case 8: return post.spouts;
            case 9: return now.year;
            case 10: return undoable;
            case 11: return imageCount;
            case 12: return tapeSize;
            default: return NONE;
        }
    }

    /** Promise 51. */
    public int trouble() {
        return trouble;
    }

    // ---- what the calls share

    private int granted(int answer) {
        trouble = NO_TROUBLE;
        return answer;
    }

    private int refused(int why) {
        trouble = why;
        return NONE;
    }

    private boolean hasGranted() {
        trouble = NO_TROUBLE;
        return true;
    }

    private boolean hasRefused(int why) {
        trouble = why;
        return false;
    }

    /** A POST has an island at least, so an object without one is an object without POST. */
    private boolean hasPost() {
        return post.islands > 0;
    }

    private boolean isIsland(int i) {
        return i >= 0 && i < post.islands;
    }

    private boolean areTwoIslands(int i, int j) {
        return isIsland(i) && isIsland(j) && i != j;
    }

    private boolean isWay(int way) {
        return way >= 0 && way < post.ways;
    }

    private boolean isWhale(int w) {
        return w >= 0 && w < post.whales;
    }

    private boolean isBox(int b) {
        return b >= 0 && b < post.boxes;
    }

    private boolean isNoteOfBox(int b, int k) {
        return isBox(b) && k >= 0 && k < post.boxLength(b);
    }

    private static boolean isWithin(int number, int most) {
        return number >= 0 && number <= most;
    }

    private int refusalOfNewSong(int notes, int apart) {
        if (!hasPost()) {
            return NO_SUCH;
        }
        boolean fine = notes >= 2 && notes <= Songs.NEW_LENGTH && apart >= 1 && apart <= 5;
        return fine ? NO_TROUBLE : BAD_NUMBER;
    }

    private void appendBytes(int number) {
        for (int shift = 24; shift >= 0; shift -= 8) {
            tape[tapeSize] = (byte) (number >> shift);
            tapeSize++;
        }
    }

    /** The POST that was goes on as the next draft, so that no rows are made anew. */
    private void takeDraft() {
        Post old = post;
        post = draft;
        draft = old;
        songs.post = post;
        sea.post = post;
        paths.post = post;
        now.begin(post);
        undoable = 0;
        imageCount = 0;
    }

    private void keepForUndo() {
        newest = (newest + 1) % UNDO_ROOM;
        history[newest].copyFrom(now);
        undoable = Math.min(undoable + 1, UNDO_ROOM);
    }

    private int hearerIn(int b, int year) {
        return songs.hearerOf(now.boxSong[b], post.boxLength(b), year);
    }

    private int sentPart(int b, int what) {
        if (what == 0) {
            return 1;
        }
        if (what == 1) {
            return now.boxGot[b] == post.box[b].to ? 1 : 0;
        }
        return now.boxCame[b] - post.box[b].day;
    }

    private int heardWithSlips(int year) {
        int heard = 0;
        for (int b = 0; b < post.boxes; b++) {
            int length = post.boxLength(b);
            int song = songs.slipped(now.boxSong[b], length);
            if (songs.hearerOf(song, length, year) == post.box[b].to) {
                heard++;
            }
        }
        return heard;
    }

    private void solveMatch() {
        for (int b = 0; b < post.boxes; b++) {
            for (int w = 0; w < post.whales; w++) {
                matching.days[b * WHALE_ROOM + w] = sea.dayOfBringing(w, b);
            }
        }
        matching.solve(post.boxes, post.whales);
    }

    private static int commonDivisor(int a, int b) {
        int greater = a;
        int rest = b;
        // Below 10,000 the remainders are gone after some twenty turns.
        for (int turn = 0; turn < 40 && rest != 0; turn++) {
            int next = greater % rest;
            greater = rest;
            rest = next;
        }
        return Math.max(greater, 1);
    }

    // A song is one number, two bits a note, the first note highest: so songs go by notes as their
    // numbers go, and notes that are unlike are counted in one step.

    private static int noteAt(int song, int length, int k) {
        return song >> 2 * (length - 1 - k) & 3;
    }

    private static int withNote(int song, int length, int k, int note) {
        int shift = 2 * (length - 1 - k);
        return song & ~(3 << shift) | note << shift;
    }

    private static int unlikeNotes(int song, int other) {
        int differing = song ^ other;
        return Integer.bitCount((differing | differing >> 1) & 0x555);
    }

    /** A way as it was told. */
    private static final class Way {
        int one;
        int other;
        int days;
        int open;
    }

    /** A whale as it was told. */
    private static final class Whale {
        int kind;
        int home;
        int keeps;
        int lost;
    }

    /** A box as it was told. */
    private static final class Box {
        int from;
        int to;
        int weighs;
        int day;
    }

    /** A spout as it was told. */
    private static final class Spout {
        int whale;
        int island;
        int day;
    }

    /** What the text of a POST told; acts change nothing of it. */
    private static final class Post {
        int notes;
        int errors;
        int drift;
        int slip;
        int islands;
        int ways;
        int whales;
        int boxes;
        int spouts;
        final int[] song = new int[ISLAND_ROOM];
        final int[] songLength = new int[ISLAND_ROOM];
        final Way[] way = new Way[WAY_ROOM];
        final Whale[] whale = new Whale[WHALE_ROOM];
        final Box[] box = new Box[BOX_ROOM];
        final Spout[] spout = new Spout[SPOUT_ROOM];

        Post() {
            for (int k = 0; k < WAY_ROOM; k++) {
                way[k] = new Way();
            }
            for (int k = 0; k < WHALE_ROOM; k++) {
                whale[k] = new Whale();
            }
            for (int k = 0; k < BOX_ROOM; k++) {
                box[k] = new Box();
            }
            for (int k = 0; k < SPOUT_ROOM; k++) {
                spout[k] = new Spout();
            }
        }

        void clear() {
            notes = 0;
            errors = 0;
            drift = 0;
            slip = 0;
            islands = 0;
            ways = 0;
            whales = 0;
            boxes = 0;
            spouts = 0;
        }

        int boxLength(int b) {
            return songLength[box[b].to];
        }

        int wayBetween(int i, int j) {
            for (int k = 0; k < ways; k++) {
                boolean there = way[k].one == i && way[k].other == j;
                if (there || way[k].one == j && way[k].other == i) {
                    return k;
                }
            }
            return NOBODY;
        }

        boolean hasSong(int told, int length) {
            for (int i = 0; i < islands; i++) {
                if (song[i] == told && songLength[i] == length) {
                    return true;
                }
            }
            return false;
        }

        int lastSpoutOf(int w) {
            for (int k = spouts - 1; k >= 0; k--) {
                if (spout[k].whale == w) {
                    return k;
                }
            }
            return NOBODY;
        }
    }

    /** What acts change: what is kept for undoing and by images. */
    private static final class Now {
        int year = 0;
        int closed = 0;
        final int[] whaleAt = new int[WHALE_ROOM];
        final int[] whaleFree = new int[WHALE_ROOM];
        final int[] boxCame = new int[BOX_ROOM];
        final int[] boxGot = new int[BOX_ROOM];
        final int[] boxSong = new int[BOX_ROOM];

        void begin(Post post) {
            year = 0;
            closed = 0;
            for (int w = 0; w < post.whales; w++) {
                whaleAt[w] = post.whale[w].home;
                whaleFree[w] = 0;
            }
            for (int b = 0; b < post.boxes; b++) {
                boxCame[b] = NOBODY;
                boxGot[b] = NOBODY;
                boxSong[b] = post.song[post.box[b].to];
            }
        }

        void copyFrom(Now other) {
            year = other.year;
            closed = other.closed;
            System.arraycopy(other.whaleAt, 0, whaleAt, 0, WHALE_ROOM);
            System.arraycopy(other.whaleFree, 0, whaleFree, 0, WHALE_ROOM);
            System.arraycopy(other.boxCame, 0, boxCame, 0, BOX_ROOM);
            System.arraycopy(other.boxGot, 0, boxGot, 0, BOX_ROOM);
            System.arraycopy(other.boxSong, 0, boxSong, 0, BOX_ROOM);
        }

        boolean isClosed(int way) {
            return (closed >> way & 1) != 0;
        }

        boolean isSent(int b) {
            return boxCame[b] != NOBODY;
        }
    }

    /** Reads the text of a POST from the tape, up to the first fault. */
    private static final class Reader {
        private static final int FORM = 1;
        private static final int UNTOLD = 2;
        private static final int AGAIN = 3;
        private static final int BOUNDS = 4;
        private static final int MANY = 5;
        private static final int LACKS = 6;
        private static final int NO_SONG = 7;

        private static final int END = 0;
        private static final int WORD = 1;
        private static final int WHOLE = 2;
        private static final int SEMICOLON = 3;
        private static final int NO_TOKEN = 4;

        private static final int HEAD = 0;
        private static final int ISLAND = 1;
        private static final int WAY = 2;
        private static final int WHALE = 3;
        private static final int BOX = 4;
        private static final int SPOUT = 5;

        private static final int NAME_ROOM = ISLAND_ROOM + WHALE_ROOM + BOX_ROOM;

        private final byte[] text;
        private int end = 0;
        private int at = 0;
        private int token = END;
        private int start = 0;
        private int value = 0;
        private Post post;
        private final long[] name = new long[NAME_ROOM];
        private final int[] nameSort = new int[NAME_ROOM];
        private final int[] nameNumber = new int[NAME_ROOM];
        private int names = 0;
        int fault = 0;
        int place = NONE;

        Reader(byte[] text, Post post) {
            this.text = text;
            this.post = post;
        }

        boolean readPost(int length, Post into) {
            post = into;
            post.clear();
            end = Math.min(length, text.length);
            at = 0;
            names = 0;
            fault = 0;
            place = NONE;
            for (int line = 0; line <= end; line++) {
                if (!readLine()) {
                    return false;
                }
                nextToken();
                if (token == END) {
                    return post.islands > 0 || faulty(LACKS);
                }
                if (token != SEMICOLON) {
                    return faulty(FORM);
                }
            }
            return faulty(FORM);
        }

        private boolean faulty(int number) {
            fault = number;
            place = start;
            return false;
        }

        private boolean readLine() {
            nextToken();
            int sort = sortOfLine();
            if (sort == NOBODY) {
                return faulty(FORM);
            }
            boolean headTold = post.notes > 0;
            if (sort == HEAD) {
                return headTold ? faulty(AGAIN) : readHead();
            }
            if (!headTold) {
                return faulty(LACKS);
            }
            switch (sort) {
                case ISLAND: return post.islands < ISLAND_ROOM ? readIsland() : faulty(MANY);
                case WAY: return post.ways < WAY_ROOM ? readWay(post.way[post.ways]) : faulty(MANY);
                case WHALE: return post.whales < WHALE_ROOM ? readWhale(post.whale[post.whales]) : faulty(MANY);
                case BOX: return post.boxes < BOX_ROOM ? readBox(post.box[post.boxes]) : faulty(MANY);
                default: return post.spouts < SPOUT_ROOM ? readSpout(post.spout[post.spouts]) : faulty(MANY);
            }
        }

        private boolean readHead() {
            if (!word("notes") || !whole(2, 4)) {
                return false;
            }
            post.notes = value;
            if (!word("errors") || !whole(0, 3)) {
                return false;
            }
            post.errors = value;
            if (!word("drift") || !whole(0, 50)) {
                return false;
            }
            post.drift = value;
            if (!word("slip") || !whole(0, 100)) {
                return false;
            }
            post.slip = value;
            return true;
        }

        private boolean readIsland() {
            if (!newName(ISLAND, post.islands)) {
                return false;
            }
            nextToken();
            if (token != WORD) {
                return faulty(FORM);
            }
            int length = at - start;
            int song = songOfToken();
            if (song == NOBODY) {
                return faulty(NO_SONG);
            }
            if (post.hasSong(song, length)) {
                return faulty(AGAIN);
            }
            post.song[post.islands] = song;
            post.songLength[post.islands] = length;
            post.islands++;
            return true;
        }

        private boolean readWay(Way way) {
            if (!toldName(ISLAND)) {
                return false;
            }
            way.one = value;
            if (!toldName(ISLAND)) {
                return false;
            }
            way.other = value;
            if (way.one == way.other || post.wayBetween(way.one, way.other) != NOBODY) {
                return faulty(AGAIN);
            }
            if (!word("days") || !whole(1, 99)) {
                return false;
            }
            way.days = value;
            if (!word("open") || !whole(1, 15)) {
                return false;
            }
            way.open = value;
            post.ways++;
            return true;
        }

        private boolean readWhale(Whale whale) {
            if (!newName(WHALE, post.whales)) {
                return false;
            }
            nextToken();
            whale.kind = kindOfToken();
            if (whale.kind == NOBODY) {
                return faulty(FORM);
            }
            if (!word("at") || !toldName(ISLAND)) {
                return false;
            }
            whale.home = value;
            if (!word("keeps") || !whole(0, 99)) {
                return false;
            }
            whale.keeps = value;
            if (!word("lost") || !whole(0, 99)) {
                return false;
            }
            whale.lost = value;
            post.whales++;
            return true;
        }

        private boolean readBox(Box box) {
            if (!newName(BOX, post.boxes) || !word("from") || !toldName(ISLAND)) {
                return false;
            }
            box.from = value;
            if (!word("to") || !toldName(ISLAND)) {
                return false;
            }
            box.to = value;
            if (!word("weighs") || !whole(1, 99)) {
                return false;
            }
            box.weighs = value;
            if (!word("day") || !whole(0, LAST_DAY_ASKED)) {
                return false;
            }
            box.day = value;
            post.boxes++;
            return true;
        }

        private boolean readSpout(Spout spout) {
            if (!toldName(WHALE)) {
                return false;
            }
            spout.whale = value;
            if (!toldName(ISLAND)) {
                return false;
            }
            spout.island = value;
            int last = post.lastSpoutOf(spout.whale);
            int least = last == NOBODY ? 0 : post.spout[last].day + 1;
            if (!word("day") || !whole(least, LAST_DAY_ASKED)) {
                return false;
            }
            spout.day = value;
            post.spouts++;
            return true;
        }

        private boolean word(String wanted) {
            nextToken();
            return isToken(wanted) || faulty(FORM);
        }

        private boolean whole(int least, int most) {
            nextToken();
            if (token != WHOLE) {
                return faulty(FORM);
            }
            value = 0;
            for (int k = start; k < at; k++) {
                value = value * 10 + (text[k] - '0');
            }
            return value >= least && value <= most || faulty(BOUNDS);
        }

        private boolean newName(int sort, int number) {
            nextToken();
            if (token != WORD || sortOfLine() != NOBODY) {
                return faulty(FORM);
            }
            // There is a place for each name that the rooms of the sorts allow.
            if (nameOfToken() != NOBODY || names >= NAME_ROOM) {
                return faulty(AGAIN);
            }
            name[names] = letters();
            nameSort[names] = sort;
            nameNumber[names] = number;
            names++;
            return true;
        }

        private boolean toldName(int sort) {
            nextToken();
            if (token != WORD || sortOfLine() != NOBODY) {
                return faulty(FORM);
            }
            int k = nameOfToken();
            if (k == NOBODY || nameSort[k] != sort) {
                return faulty(UNTOLD);
            }
            value = nameNumber[k];
            return true;
        }

        private int nameOfToken() {
            long wanted = letters();
            for (int k = 0; k < names; k++) {
                if (name[k] == wanted) {
                    return k;
                }
            }
            return NOBODY;
        }

        /** Eight letters of five bits, none of them 0, so that no two words are one number. */
        private long letters() {
            long all = 0;
            for (int k = start; k < at; k++) {
                all = all << 5 | text[k] - 'a' + 1;
            }
            return all;
        }

        private int songOfToken() {
            int length = at - start;
            if (length < 2 || length > 6) {
                return NOBODY;
            }
            int song = 0;
            for (int k = start; k < at; k++) {
                int note = text[k] - 'a';
                if (note >= post.notes) {
                    return NOBODY;
                }
                song = song << 2 | note;
            }
            return song;
        }

        private int kindOfToken() {
            if (isToken("calf")) {
                return CALF;
            }
            if (isToken("cow")) {
                return COW;
            }
            if (isToken("bull")) {
                return BULL;
            }
            return isToken("old") ? OLD : NOBODY;
        }

        private int sortOfLine() {
            if (isToken("post")) {
                return HEAD;
            }
            if (isToken("island")) {
                return ISLAND;
            }
            if (isToken("way")) {
                return WAY;
            }
            if (isToken("whale")) {
                return WHALE;
            }
            if (isToken("box")) {
                return BOX;
            }
            return isToken("spout") ? SPOUT : NOBODY;
        }

        private boolean isToken(String wanted) {
            if (token != WORD || at - start != wanted.length()) {
                return false;
            }
            for (int k = 0; k < wanted.length(); k++) {
                if (text[start + k] != wanted.charAt(k)) {
                    return false;
                }
            }
            return true;
        }

        private void nextToken() {
            while (at < end && text[at] == ' ') {
                at++;
            }
            start = at;
            if (at >= end) {
                token = END;
            } else if (text[at] == ';') {
                at++;
                token = SEMICOLON;
            } else if (passAll('a', 'z')) {
                token = at - start <= 8 ? WORD : NO_TOKEN;
            } else if (passAll('0', '9')) {
                token = at - start <= 4 ? WHOLE : NO_TOKEN;
            } else {
                token = NO_TOKEN;
            }
        }

        private boolean passAll(char first, char last) {
            while (at < end && text[at] >= first && text[at] <= last) {
                at++;
            }
            return at > start;
        }
    }

    /** How songs drift, who hears them, and which are free. */
    private static final class Songs {
        static final int DRAWS = 65537;
        static final int NEW_LENGTH = 5;
        static final int NEW_ROOM = 1024;

        Post post;
        int seed = 0;
        int fewestUnlike = 0;
        int nearestCount = 0;
        int firstNew = NOBODY;
        private final int[] kept = new int[NEW_ROOM + ISLAND_ROOM];

        Songs(Post post) {
            this.post = post;
        }

        private int fallIn(int year) {
            return post.drift > 0 && post.notes > 0 ? year / post.drift % post.notes : 0;
        }

        private int raised(int song, int length, int by) {
            if (by == 0 || post.notes <= 0) {
                return song;
            }
            int all = 0;
            for (int k = 0; k < length; k++) {
                all = all << 2 | (noteAt(song, length, k) + by) % post.notes;
            }
            return all;
        }

        int songIn(int i, int year) {
            return raised(post.song[i], post.songLength[i], post.notes - fallIn(year));
        }

        /** Also finds in how many notes the nearest are unlike, and how many of them there are. */
        int hearerOf(int song, int length, int year) {
            // All songs fall alike: this one is raised instead of lowering each of the others.
            int asTold = raised(song, length, fallIn(year));
            int nearest = NOBODY;
            fewestUnlike = length + 1;
            nearestCount = 0;
            for (int i = 0; i < post.islands; i++) {
                if (post.songLength[i] == length) {
                    int unlike = unlikeNotes(asTold, post.song[i]);
                    if (unlike < fewestUnlike) {
                        fewestUnlike = unlike;
                        nearestCount = 0;
                        nearest = i;
                    }
                    if (unlike == fewestUnlike) {
                        nearestCount++;
                    }
                }
            }
            return nearestCount == 1 && fewestUnlike <= post.errors ? nearest : NOBODY;
        }

        /** As all songs fall alike, they are as far apart as they were told. */
        int apartness(int i, int j) {
            return post.songLength[i] == post.songLength[j] ? unlikeNotes(post.song[i], post.song[j]) : NOBODY;
        }

        /** Two songs d apart both bear less than half of d wrong notes. */
        int bearable() {
            int most = NOBODY;
            for (int i = 0; i < post.islands; i++) {
                for (int j = 0; j < i; j++) {
                    int apart = apartness(i, j);
                    if (apart != NOBODY && (most == NOBODY || (apart - 1) / 2 < most)) {
                        most = (apart - 1) / 2;
                    }
                }
            }
            return most;
        }

        /** Between two songs d apart there is one within half of d, rounded up, of both. */
        int mixedPairs() {
            int pairs = 0;
            for (int i = 0; i < post.islands; i++) {
                for (int j = 0; j < i; j++) {
                    int apart = apartness(i, j);
                    if (apart != NOBODY && apart <= 2 * post.errors) {
                        pairs++;
                    }
                }
            }
            return pairs;
        }

        /** Takes new songs by turns, up to a limit: how many; the number of the first is kept. */
        int findNew(int length, int apart, int year, int limit) {
            int sung = keepSongsOf(length, year);
            int all = sung;
            int number = 0;
            firstNew = NOBODY;
            for (int song = 0; song < 1 << 2 * length && all - sung < limit; song++) {
                if (isOfNotes(song, length)) {
                    // What is taken by turns is unlike anyway: one note apart asks for no look at it.
                    if (isFarFromKept(song, apart, apart == 1 ? sung : all)) {
                        kept[all] = song;
                        all++;
                        firstNew = firstNew == NOBODY ? number : firstNew;
                    }
                    number++;
                }
            }
            return all - sung;
        }

        private int keepSongsOf(int length, int year) {
            int count = 0;
            for (int i = 0; i < post.islands; i++) {
                if (post.songLength[i] == length) {
                    kept[count] = songIn(i, year);
                    count++;
                }
            }
            return count;
        }

        private boolean isOfNotes(int song, int length) {
            for (int k = 0; k < length; k++) {
                if (noteAt(song, length, k) >= post.notes) {
                    return false;
                }
            }
            return true;
        }

        private boolean isFarFromKept(int song, int apart, int count) {
            for (int k = 0; k < count; k++) {
                if (unlikeNotes(song, kept[k]) < apart) {
                    return false;
                }
            }
            return true;
        }

        private int draw() {
            seed = (75 * seed + 74) % DRAWS;
            return seed;
        }

        int slipped(int song, int length) {
            if (draw() % 100 >= post.slip || length <= 0 || post.notes <= 0) {
                return song;
            }
            int k = draw() % length;
            return withNote(song, length, k, draw() % post.notes);
        }
    }

    /** When whales can be where. */
    private static final class Sea {
        private static final int NEVER = 1000000000;

        Post post;
        private final Now now;
        private final Songs songs;
        private final int[] first = new int[ISLAND_ROOM];
        int goal = NOBODY;
        private int taken = 0;
        private int arrived = 0;

        Sea(Post post, Now now, Songs songs) {
            this.post = post;
            this.now = now;
            this.songs = songs;
        }

        int dayOfLeaving(int kind, int open, int day) {
            if (kind == OLD) {
                return day;
            }
            int season = day / SEASON_DAYS;
            for (int k = 0; k < SEASONS; k++) {
                if ((open >> (season + k) % SEASONS & 1) != 0) {
                    return k == 0 ? day : (season + k) * SEASON_DAYS;
                }
            }
            return day;
        }

        /** Who leaves later is never there sooner, so the first days settle way by way. */
        private void findFirstDays(int kind, int from, int day) {
            Arrays.fill(first, NEVER);
            first[from] = day;
            int turns = kind == CALF ? 1 : post.islands;
            boolean sooner = true;
            for (int turn = 0; turn < turns && sooner; turn++) {
                sooner = false;
                for (int k = 0; k < post.ways; k++) {
                    Way way = post.way[k];
                    boolean tooFar = kind == CALF && way.one != from && way.other != from;
                    if (!tooFar && !now.isClosed(k)) {
                        // Only one end of a way can come sooner by the other.
                        sooner = goes(kind, way, way.one, way.other) || goes(kind, way, way.other, way.one) || sooner;
                    }
                }
            }
        }

        private boolean goes(int kind, Way way, int from, int to) {
            if (first[from] == NEVER) {
                return false;
            }
            int days = kind == BULL ? 2 * way.days : way.days;
            int day = dayOfLeaving(kind, way.open, first[from]) + days;
            if (day >= first[to]) {
                return false;
            }
            first[to] = day;
            return true;
        }

        int firstDayAt(int kind, int from, int to, int day) {
            findFirstDays(kind, from, day);
            return first[to] == NEVER ? NOBODY : first[to];
        }

        /** Also finds the island that hears the box, and the days on which it is taken and there. */
        int dayOfBringing(int w, int b) {
            Whale whale = post.whale[w];
            Box box = post.box[b];
            if (now.isSent(b) || box.weighs > CAN_CARRY[whale.kind]) {
                return NOBODY;
            }
            goal = songs.hearerOf(now.boxSong[b], post.boxLength(b), now.year);
            if (goal == NOBODY) {
                return NOBODY;
            }
            int comes = firstDayAt(whale.kind, now.whaleAt[w], box.from, now.whaleFree[w]);
            if (comes == NOBODY) {
                return NOBODY;
            }
            taken = Math.max(comes, box.day);
            arrived = firstDayAt(whale.kind, box.from, goal, taken);
            return arrived == NOBODY ? NOBODY : arrived + whale.keeps;
        }

        int soonestBringer(int b) {
            int best = NOBODY;
            int bestDay = 0;
            for (int w = 0; w < post.whales; w++) {
                int day = dayOfBringing(w, b);
                if (day != NOBODY && (best == NOBODY || day < bestDay)) {
                    best = w;
                    bestDay = day;
                }
            }
            return best;
        }

        int surestBringer(int b, int besides) {
            int best = NOBODY;
            for (int w = 0; w < post.whales; w++) {
                boolean surer = best == NOBODY || post.whale[w].lost < post.whale[best].lost;
                if (w != besides && surer && dayOfBringing(w, b) != NOBODY) {
                    best = w;
                }
            }
            return best;
        }

        int bringersBy(int b, int day) {
            int bits = 0;
            for (int w = 0; w < post.whales; w++) {
                int comes = dayOfBringing(w, b);
                if (comes != NOBODY && comes <= day) {
                    bits |= 1 << w;
                }
            }
            return bits;
        }

        int dayOfMeeting(int b, int w, int c, int x) {
            if (dayOfBringing(w, b) == NOBODY || goal != post.box[c].from) {
                return NOBODY;
            }
            int firstTaken = taken;
            int firstArrived = arrived;
            if (dayOfBringing(x, c) == NOBODY || goal != post.box[b].from) {
                return NOBODY;
            }
            int day = Math.max(firstTaken, taken);
            return day < Math.min(firstArrived, arrived) ? day : NOBODY;
        }

        int fittingWhales() {
            int bits = 0;
            for (int w = 0; w < post.whales; w++) {
                if (isFitting(w)) {
                    bits |= 1 << w;
                }
            }
            return bits;
        }

        private boolean isFitting(int w) {
            int at = post.whale[w].home;
            int day = 0;
            for (int k = 0; k < post.spouts; k++) {
                Spout spout = post.spout[k];
                if (spout.whale == w) {
                    findFirstDays(post.whale[w].kind, at, day);
                    if (first[spout.island] > spout.day) {
                        return false;
                    }
                    at = spout.island;
                    day = spout.day;
                }
            }
            return true;
        }

        int islandsReached(int w, int day) {
            int last = post.lastSpoutOf(w);
            int from = last == NOBODY ? post.whale[w].home : post.spout[last].island;
            findFirstDays(post.whale[w].kind, from, last == NOBODY ? 0 : post.spout[last].day);
            int bits = 0;
            for (int i = 0; i < post.islands; i++) {
                if (first[i] <= day) {
                    bits |= 1 << i;
                }
            }
            return bits;
        }

        int bestPier(int day) {
            int fitting = Integer.bitCount(fittingWhales());
            int best = NOBODY;
            int bestOff = 0;
            for (int i = 0; i < post.islands; i++) {
                int off = Math.abs(2 * whalesReaching(i, day) - fitting);
                if (best == NOBODY || off < bestOff) {
                    best = i;
                    bestOff = off;
                }
            }
            return best;
        }

        private int whalesReaching(int i, int day) {
            int count = 0;
            for (int w = 0; w < post.whales; w++) {
                count += islandsReached(w, day) >> i & 1;
            }
            return count;
        }
    }

    /** Who takes which box. */
    private static final class Matching {
        private static final int USES = 1 << WHALE_ROOM;
        /** More than all days together can be, so that one box more always counts for more. */
        private static final int ONE_BOX = 10000000;

        final int[] days = new int[BOX_ROOM * WHALE_ROOM];
        final int[] whaleOf = new int[BOX_ROOM];
        int count = 0;
        int sumOfDays = 0;
        private final int[] best = new int[(BOX_ROOM + 1) * USES];

        /** The best of the boxes from b on is found for all whales that earlier boxes may have used. */
        void solve(int boxes, int whales) {
            Arrays.fill(best, 0);
            for (int b = boxes - 1; b >= 0; b--) {
                for (int used = 0; used < 1 << whales; used++) {
                    int most = best[(b + 1) * USES + used];
                    for (int w = 0; w < whales; w++) {
                        most = Math.max(most, worth(b, w, used));
                    }
                    best[b * USES + used] = most;
                }
            }
            choose(boxes, whales);
        }

        /** Of box b brought by whale w and the best behind it; below all others if it can't be. */
        private int worth(int b, int w, int used) {
            int day = days[b * WHALE_ROOM + w];
            if (day == NOBODY || (used >> w & 1) != 0) {
                return NOBODY;
            }
            return ONE_BOX - day + best[(b + 1) * USES + (used | 1 << w)];
        }

        private void choose(int boxes, int whales) {
            count = 0;
            sumOfDays = 0;
            int used = 0;
            for (int b = 0; b < boxes; b++) {
                int w = firstBest(b, whales, used);
                whaleOf[b] = w;
                if (w != NOBODY) {
                    count++;
                    sumOfDays += days[b * WHALE_ROOM + w];
                    used |= 1 << w;
                }
            }
        }

        private int firstBest(int b, int whales, int used) {
            for (int w = 0; w < whales; w++) {
                if (worth(b, w, used) == best[b * USES + used]) {
                    return w;
                }
            }
            return NOBODY;
        }
    }

    /** Ways whatever the season. */
    private static final class Paths {
        private static final int FAR = 1000000;

        Post post;
        final int[] order = new int[ISLAND_ROOM];
        private final int[] between = new int[ISLAND_ROOM * ISLAND_ROOM];
        private final int[] rest = new int[(1 << ISLAND_ROOM) * ISLAND_ROOM];

        Paths(Post post) {
            this.post = post;
        }

        /** The fewest ways that part two islands are all those between some islands with the one and the rest. */
        int fewestToWatch(int i, int j, int closed) {
            int best = NOBODY;
            int fewest = WAY_ROOM + 1;
            for (int side = 0; side < 1 << post.islands; side++) {
                if ((side >> i & 1) != 0 && (side >> j & 1) == 0) {
                    int watched = waysOutOf(side) & ~closed;
                    int count = Integer.bitCount(watched);
                    if (count < fewest || count == fewest && watched < best) {
                        best = watched;
                        fewest = count;
                    }
                }
            }
            return best;
        }

        private int waysOutOf(int side) {
            int bits = 0;
            for (int k = 0; k < post.ways; k++) {
                if ((side >> post.way[k].one & 1) != (side >> post.way[k].other & 1)) {
                    bits |= 1 << k;
                }
            }
            return bits;
        }

        /** The days of the round from an island; its order is kept. */
        int findRound(int from, int closed) {
            findShortest(closed);
            findRests();
            int total = rest[(1 << from) * ISLAND_ROOM + from];
            if (total >= FAR) {
                return NOBODY;
            }
            int visited = 1 << from;
            order[0] = from;
            for (int k = 1; k < post.islands; k++) {
                order[k] = nextOf(visited, order[k - 1]);
                visited |= 1 << order[k];
            }
            return total;
        }

        private void findShortest(int closed) {
            Arrays.fill(between, FAR);
            for (int k = 0; k < post.ways; k++) {
                if ((closed >> k & 1) == 0) {
                    between[post.way[k].one * ISLAND_ROOM + post.way[k].other] = post.way[k].days;
                    between[post.way[k].other * ISLAND_ROOM + post.way[k].one] = post.way[k].days;
                }
            }
            for (int over = 0; over < post.islands; over++) {
                for (int i = 0; i < post.islands; i++) {
                    for (int j = 0; j < post.islands; j++) {
                        int days = between[i * ISLAND_ROOM + over] + between[over * ISLAND_ROOM + j];
                        between[i * ISLAND_ROOM + j] = Math.min(between[i * ISLAND_ROOM + j], days);
                    }
                }
            }
        }

        /** Fewest days that are left of a round, by the islands that were visited and the last of them. */
        private void findRests() {
            int all = (1 << post.islands) - 1;
            for (int visited = all; visited > 0; visited--) {
                for (int last = 0; last < post.islands; last++) {
                    int fewest = visited == all ? 0 : FAR;
                    for (int next = 0; next < post.islands; next++) {
                        if ((visited >> next & 1) == 0) {
                            fewest = Math.min(fewest, daysOver(visited, last, next));
                        }
                    }
                    rest[visited * ISLAND_ROOM + last] = fewest;
                }
            }
        }

        private int daysOver(int visited, int last, int next) {
            return between[last * ISLAND_ROOM + next] + rest[(visited | 1 << next) * ISLAND_ROOM + next];
        }

        private int nextOf(int visited, int last) {
            for (int next = 0; next < post.islands; next++) {
                if ((visited >> next & 1) == 0 && daysOver(visited, last, next) == rest[visited * ISLAND_ROOM + last]) {
                    return next;
                }
            }
            return last;
        }
    }
}
