/** Promises 1 to 5: a new object, the tape, the text of a POST and its faults. */
public final class PostTextTest {
    public static void main(String[] args) {
        newObject();
        tape();
        bytesOrder();
        postNumbers();
        postBegins();
        goodTexts();
        form();
        names();
        bounds();
        many();
        lacks();
        notSongs();
        firstFaultWins();
        faultAndWhere();
        Check.end();
    }

    private static void newObject() {
        WhalePost x = new WhalePost();
        Check.due("trouble()", x.trouble(), 0);
        Check.due("fault()", x.fault(), 0);
        Check.due("where()", x.where(), -1);
        for (int what = 0; what <= 12; what++) {
            Check.due("size(" + what + ")", x.size(what), 0);
        }
        Check.refused(x, "season(0)", x.season(0), 1);
        Check.refused(x, "whale(0, 0)", x.whale(0, 0), 1);
        Check.refused(x, "sent(0)", x.sent(0), 1);
        Check.refused(x, "image()", x.image(), 1);
        Check.refused(x, "back(0)", x.back(0), 1);
    }

    private static void tape() {
        WhalePost x = new WhalePost();
        for (int k = 1; k <= 50; k++) {
            Check.due("feed " + k, x.feed(0, 0, 0, 0, 0), 20 * k);
        }
        x.undo();
        Check.due("feed 51", x.feed(0, 0, 0, 0, 0), -1);
        Check.due("size(12)", x.size(12), 1000);
        Check.due("trouble() isn't feed's", x.trouble(), 6);
        Check.refused(x, "post(1001)", x.post(1001), 2);
        Check.due("size(12)", x.size(12), 1000);
        Check.refused(x, "post(1000)", x.post(1000), 4);
        Check.due("size(12)", x.size(12), 0);
        Check.due("feed anew", x.feed(1, 2, 3, 4, 5), 20);

        String full = Check.HEAD + "island a ab;";
        StringBuilder text = new StringBuilder(full);
        while (text.length() < 989) {
            text.append(' ');
        }
        text.append("island b ba");
        Check.due("post() of 1,000 bytes", Check.tell(new WhalePost(), text.toString()), 2);
    }

    private static void bytesOrder() {
        WhalePost x = new WhalePost();
        // "post" with a byte 0xf0 behind it, which would be negative if it were signed.
        Check.due("feed", x.feed(0x706f7374, 0xf0202020, 0x20202020, 0x20202020, 0x20202020), 20);
        Check.refused(x, "post(20)", x.post(20), 4);
        Check.due("fault()", x.fault(), 1);
        Check.due("where()", x.where(), 4);
        // "pos", "t" in another number: the order is kept over numbers.
        x.feed(0x20706f73, 0x74206e6f, 0x74657320, 0x32207a20, 0x20202020);
        Check.refused(x, "post(20)", x.post(20), 4);
        Check.due("where()", x.where(), 14);
    }

    private static void postNumbers() {
        WhalePost x = new WhalePost();
        Check.refused(x, "post(1)", x.post(1), 2);
        Check.refused(x, "post(-1)", x.post(-1), 2);
        Check.refused(x, "post(min)", x.post(Integer.MIN_VALUE), 2);
        Check.refused(x, "post(max)", x.post(Integer.MAX_VALUE), 2);
        Check.refused(x, "post(0)", x.post(0), 4);
        Check.due("fault()", x.fault(), 1);
        Check.due("where()", x.where(), 0);
        Check.feed(x, Check.HEAD + "island a ab");
        Check.refused(x, "post(61)", x.post(61), 2);
        Check.due("fault() of the post ahead", x.fault(), 1);
        Check.due("where()", x.where(), -1);
        Check.granted(x, "post(60), blanks behind", x.post(60), 1);
        Check.due("fault()", x.fault(), 0);
    }

    private static void postBegins() {
        WhalePost x = Check.posted(Check.WORLD);
        x.send(1, 0);
        x.tune(1, 0, 0);
        x.years(7);
        x.close(0, true);
        x.image();
        Check.refused(x, "post() with a fault", Check.tell(x, "post"), 4);
        Check.due("size(9) stays", x.size(9), 7);
        Check.due("size(10) stays", x.size(10), 4);
        Check.due("size(11) stays", x.size(11), 1);
        Check.due("size(4) stays", x.size(4), 4);
        Check.due("way(0, 1) stays", x.way(0, 1), -2);
        Check.due("size(12)", x.size(12), 0);
        Check.granted(x, "post() again", Check.tell(x, Check.WORLD), 4);
        Check.due("size(9)", x.size(9), 0);
        Check.due("size(10)", x.size(10), 0);
        Check.due("size(11)", x.size(11), 0);
        Check.due("whale(1, 1)", x.whale(1, 1), 0);
        Check.due("whale(1, 2)", x.whale(1, 2), 0);
        Check.due("box(0, 4)", x.box(0, 4), -2);
        Check.due("box(0, 5)", x.box(0, 5), -2);
        Check.due("sung(1, 0)", x.sung(1, 0), 1);
        Check.due("way(0, 1)", x.way(0, 1), 10);
        Check.refused(x, "undo()", x.undo(), 6);
        Check.refused(x, "back(0)", x.back(0), 1);
        Check.granted(x, "a smaller post()", Check.tell(x, Check.HEAD + "island a ab"), 1);
        Check.due("size(5)", x.size(5), 0);
        Check.due("size(6)", x.size(6), 0);
        Check.due("size(7)", x.size(7), 0);
        Check.due("size(8)", x.size(8), 0);
        Check.refused(x, "whale(0, 0)", x.whale(0, 0), 1);
    }

    private static void goodTexts() {
        good("post notes 4 errors 3 drift 50 slip 100;island a abcdab", 1);
        good("  post  notes 0002 errors 0 drift 00 slip 0  ;  island abcdefgh ab  ", 1);
        good("post notes2errors0drift0slip0;island a ab", 1);
        good(Check.HEAD + "island notes ab;island cow ba;whale old old at cow keeps 99 lost 99;"
            + "box days from cow to notes weighs 99 day 9999;spout old notes day 0;spout old cow day 9999", 2);
        good(Check.HEAD + "island a ab;island b aba;way b a days 99 open 15", 2);
        good(Check.HEAD + "island a ab;whale w calf at a keeps 0 lost 0;whale x cow at a keeps 0 lost 0;"
            + "spout w a day 5;spout x a day 5;spout x a day 6;spout w a day 7", 1);
        good(Check.HEAD + "island a ab;box x from a to a weighs 1 day 0", 1);
    }

    private static void form() {
        fault("^", 1);
        fault("   ^", 1);
        fault("^;", 1);
        fault("^foo", 1);
        fault("^12", 1);
        fault("^Post", 1);
        fault("^host notes 2", 1);
        fault("^pos", 1);
        fault("^posts", 1);
        fault("post ^votes 2", 1);
        fault("post notes ^.", 1);
        fault("^.", 1);
        fault("post^", 1);
        fault("post ^errors 0", 1);
        fault("post notes ^two", 1);
        fault("post notes 2 errors 0 drift 0 slip^", 1);
        fault("post notes 2 errors 0 drift 0 slip 0;^", 1);
        fault("post notes 2 errors 0 drift 0 slip 0;  ^", 1);
        fault("post notes 2 errors 0 drift 0 slip 0 ^island a ab", 1);
        fault(Check.HEAD + "^isle a ab", 1);
        fault(Check.HEAD + "^7", 1);
        fault(Check.HEAD + "^.", 1);
        fault(Check.HEAD + "island ^7 ab", 1);
        fault(Check.HEAD + "island ^.", 1);
        fault(Check.HEAD + "island a ^.", 1);
        fault(Check.HEAD + "island a ab;way ^.", 1);
        fault(Check.HEAD + "island a ab;way a ^.", 1);
        fault(Check.HEAD + "island a ab;whale w ^.", 1);
        fault(Check.HEAD + "island a ab;whale w ^now", 1);
        fault(Check.HEAD + "island a ab;island b ba;way a b ^rays 9", 1);
        fault(Check.HEAD + "island ^box ab", 1);
        fault(Check.HEAD + "island ^post ab", 1);
        fault(Check.HEAD + "island ^island ab", 1);
        fault(Check.HEAD + "island ^whale ab", 1);
        fault(Check.HEAD + "island ^spout ab", 1);
        fault(Check.HEAD + "island ^abcdefghi ab", 1);
        fault(Check.HEAD + "island a ^ababababa", 1);
        fault(Check.HEAD + "island a ^;", 1);
        fault(Check.HEAD + "island a ab ^ab", 1);
        fault(Check.HEAD + "island a ab;^;", 1);
        fault(Check.HEAD + "island a ab;^", 1);
        fault(Check.HEAD + "island a ab;  ^", 1);
        fault(Check.HEAD + "island a ab^.", 1);
        fault(Check.HEAD + "island a ab;way ^way a", 1);
        fault(Check.HEAD + "island a ab;way a^", 1);
        fault(Check.HEAD + "island a ab;island b ba;way a b ^9", 1);
        fault(Check.HEAD + "island a ab;island b ba;way a b days 9 ^closed", 1);
        fault(Check.HEAD + "island a ab;whale w ^kind", 1);
        fault(Check.HEAD + "island a ab;whale w ^calfs", 1);
        fault(Check.HEAD + "island a ab;whale w old ^in a", 1);
        fault(Check.HEAD + "island a ab;whale w old at a keeps ^12345", 1);
        fault(Check.HEAD + "island a ab;whale w old at a keeps 1 lost 1 ^1", 1);
        fault(Check.HEAD + "island a ab;box x ^at a", 1);
        fault(Check.HEAD + "island a ab;box x from a to a weighs 1 day^", 1);
        fault(Check.HEAD + "island a ab;whale w old at a keeps 1 lost 1;spout w a ^5", 1);
        fault(Check.HEAD + "island a ab;spout ^5", 1);
        fault(Check.HEAD + "island a ab;^\u0000", 1);
        fault(Check.HEAD + "island a ab;^\n", 1);
        fault(Check.HEAD + "island a ab;^`", 1);
        fault(Check.HEAD + "island a ab;^{", 1);
        fault(Check.HEAD + "island a ab;^/", 1);
        fault(Check.HEAD + "island a ab;^:", 1);
    }

    private static void names() {
        String two = Check.HEAD + "island a ab;island b ba;";
        String whale = two + "whale w cow at a keeps 0 lost 0;";
        fault(two + "way ^c a", 2);
        fault(two + "way a ^c", 2);
        fault(two + "whale w cow at ^w", 2);
        fault(two + "box x from ^x", 2);
        fault(two + "box x from a to ^c", 2);
        fault(whale + "box x from ^w", 2);
        fault(whale + "box x from a to ^w", 2);
        fault(whale + "way a ^w", 2);
        fault(whale + "spout ^a", 2);
        fault(whale + "spout ^x", 2);
        fault(whale + "spout w ^w", 2);
        fault(whale + "whale v cow at ^days", 2);
        fault(two + "island ^a bb", 3);
        fault(two + "whale ^b cow", 3);
        fault(two + "box ^a from", 3);
        fault(whale + "whale ^w cow", 3);
        fault(whale + "box ^w from", 3);
        fault(whale + "island ^w bb", 3);
        fault(whale + "box x from a to b weighs 1 day 1;box ^x", 3);
        fault(whale + "box x from a to b weighs 1 day 1;whale ^x", 3);
        fault(two + "island c ^ba", 3);
        fault(two + "way a ^a", 3);
        fault(two + "way a b days 1 open 1;way a ^b", 3);
        fault(two + "way a b days 1 open 1;way b ^a", 3);
        fault(two + "^post", 3);
        fault(Check.HEAD + "^post notes 9", 3);
        good(two + "island c aab;way a b days 1 open 1;way c b days 1 open 1;way a c days 1 open 1", 3);
    }

    private static void bounds() {
        fault("post notes ^1", 4);
        fault("post notes ^5", 4);
        fault("post notes 2 errors ^4", 4);
        fault("post notes 2 errors 3 drift ^51", 4);
        fault("post notes 2 errors 3 drift 50 slip ^101", 4);
        String two = Check.HEAD + "island a ab;island b ba;";
        fault(two + "way a b days ^0", 4);
        fault(two + "way a b days ^100", 4);
        fault(two + "way a b days 99 open ^0", 4);
        fault(two + "way a b days 99 open ^16", 4);
        fault(two + "whale w cow at a keeps ^100", 4);
        fault(two + "whale w cow at a keeps 99 lost ^100", 4);
        fault(two + "box x from a to b weighs ^0", 4);
        fault(two + "box x from a to b weighs ^100", 4);
        String whale = two + "whale w cow at a keeps 0 lost 0;whale v cow at a keeps 0 lost 0;";
        fault(whale + "spout w a day 7;spout v a day 9;spout w b day ^7", 4);
        fault(whale + "spout w a day 7;spout v a day 9;spout w b day ^6", 4);
        good(whale + "spout w a day 7;spout v a day 9;spout w b day 8", 2);
    }

    private static void many() {
        StringBuilder text = new StringBuilder("post notes 4 errors 0 drift 0 slip 0");
        for (int i = 0; i < 7; i++) {
            text.append(";island i").append((char) ('a' + i)).append(" ab").append((char) ('a' + i / 4)).append((char) ('a' + i % 4));
        }
        good(text.toString(), 7);
        fault(text + ";^island i", 5);
        String islands = text.toString();
        int ways = 0;
        for (int i = 0; i < 7 && ways < 12; i++) {
            for (int j = 0; j < i && ways < 12; j++) {
                text.append(";way i").append((char) ('a' + i)).append(" i").append((char) ('a' + j)).append(" days 1 open 1");
                ways++;
            }
        }
        good(text.toString(), 7);
        fault(text + ";^way", 5);
        rowsOf(islands, "whale w# cow at ia keeps 0 lost 0", 5, "whale");
        rowsOf(islands, "box b# from ia to ib weighs 1 day 0", 8, "box");
        rowsOf(islands + ";whale w cow at ia keeps 0 lost 0", "spout w ia day *", 8, "spout");
    }

    private static void rowsOf(String ahead, String row, int room, String sort) {
        StringBuilder text = new StringBuilder(ahead);
        for (int k = 0; k < room; k++) {
            text.append(';').append(row.replace("#", String.valueOf((char) ('a' + k))).replace("*", String.valueOf(k)));
        }
        good(text.toString(), 7);
        fault(text + ";^" + sort, 5);
    }

    private static void lacks() {
        fault("^island a ab", 6);
        fault("^way", 6);
        fault("  ^whale", 6);
        fault("^box ;", 6);
        fault("^spout x", 6);
        fault("post notes 2 errors 0 drift 0 slip 0^", 6);
        fault("post notes 2 errors 0 drift 0 slip 0  ^", 6);
    }

    private static void notSongs() {
        fault(Check.HEAD + "island a ^a", 7);
        fault(Check.HEAD + "island a ^c", 7);
        fault(Check.HEAD + "island a ^abc", 7);
        fault(Check.HEAD + "island a ^way", 7);
        fault(Check.HEAD + "island a ^abababa", 7);
        fault(Check.HEAD + "island a ^abababab", 7);
        fault("post notes 4 errors 0 drift 0 slip 0;island a ^ae", 7);
        good("post notes 4 errors 0 drift 0 slip 0;island a ad", 1);
        fault("post notes 3 errors 0 drift 0 slip 0;island a ^ad", 7);
    }

    private static void firstFaultWins() {
        fault("post notes ^9 errors 9 .", 4);
        fault(Check.HEAD + "island a ab;island ^a a;;", 3);
        fault(Check.HEAD + "way ^a . ", 2);
        fault(Check.HEAD + "island a ^c .", 7);
    }

    private static void faultAndWhere() {
        WhalePost x = Check.posted(Check.WORLD);
        Check.due("fault()", x.fault(), 0);
        Check.due("where()", x.where(), -1);
        Check.tell(x, "post notes 7");
        Check.due("fault()", x.fault(), 4);
        Check.due("where()", x.where(), 11);
        Check.due("where() again", x.where(), 11);
        Check.feed(x, "post");
        x.size(0);
        x.led(0);
        Check.due("where(): those between can't be refused", x.where(), 11);
        Check.due("trouble()", x.trouble(), 4);
        x.length(0);
        Check.due("where() behind length(0)", x.where(), -1);
        Check.due("fault() stays", x.fault(), 4);
        x.length(9);
        Check.due("where() behind length(9)", x.where(), -1);
    }

    private static void good(String text, int islands) {
        WhalePost x = new WhalePost();
        Check.granted(x, "post() of " + text, Check.tell(x, text), islands);
        Check.due("fault() of " + text, x.fault(), 0);
    }

    /** The sign ^ stands ahead of the place. */
    private static void fault(String marked, int number) {
        int place = marked.indexOf('^');
        String text = marked.substring(0, place) + marked.substring(place + 1);
        WhalePost x = new WhalePost();
        Check.refused(x, "post() of " + marked, Check.tell(x, text), 4);
        Check.due("fault() of " + marked, x.fault(), number);
        Check.due("where() of " + marked, x.where(), place);
    }
}
