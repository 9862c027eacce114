import java.util.NoSuchElementException;

/** The boundary cases of promises 1 to 5 and of the text's terms, a test each. */
public final class Promises01To05Test {
    private static final String TWO = Check.HEAD + "island a ab;island b ba;";
    private static final String WHALES = TWO + "whale w cow at a keeps 0 lost 0;whale v cow at a keeps 0 lost 0;";
    private static final String[] RESERVED = {"post", "island", "way", "whale", "box", "spout"};

    public static void main(String[] args) {
        Promises.test(Promises01To05Test.class, 1, 5);
    }

    // ---- promise 1: a new object

    private static void promise01NothingIsThere() {
        WhalePost x = new WhalePost();
        for (int what = 0; what <= 12; what++) {
            Check.due("size(" + what + ")", x.size(what), 0);
        }
    }

    private static void promise01NoTroubleNoFault() {
        WhalePost x = new WhalePost();
        Check.due("trouble()", x.trouble(), 0);
        Check.due("fault()", x.fault(), 0);
        Check.due("where()", x.where(), -1);
    }

    private static void promise01NoPostIsRefusedBy1() {
        WhalePost x = new WhalePost();
        Check.refused(x, "season(0)", x.season(0), 1);
        Check.refused(x, "sent(0)", x.sent(0), 1);
        Check.refused(x, "bear()", x.bear(), 1);
        Check.refused(x, "mixed()", x.mixed(), 1);
        Check.refused(x, "fresh(2, 1)", x.fresh(2, 1), 1);
        Check.refused(x, "byTurns(2, 1)", x.byTurns(2, 1), 1);
        Check.refused(x, "match()", x.match(), 1);
        Check.refused(x, "matchDays()", x.matchDays(), 1);
        Check.refused(x, "fits()", x.fits(), 1);
        Check.refused(x, "pier(0)", x.pier(0), 1);
        Check.refused(x, "decade(0, 0)", x.decade(0, 0), 1);
        Check.refused(x, "years(1)", x.years(1), 1);
        Check.refused(x, "image()", x.image(), 1);
    }

    private static void promise01NoRowsOfAnything() {
        WhalePost x = new WhalePost();
        Check.refused(x, "whale(0, 0)", x.whale(0, 0), 1);
        Check.refused(x, "box(0, 0)", x.box(0, 0), 1);
        Check.refused(x, "length(0)", x.length(0), 1);
        Check.refused(x, "note(0, 0)", x.note(0, 0), 1);
        Check.refused(x, "sung(0, 0)", x.sung(0, 0), 1);
        Check.refused(x, "heard(0)", x.heard(0), 1);
        Check.refused(x, "way(0, 1)", x.way(0, 1), 1);
        Check.refused(x, "sets(0, 0, 0)", x.sets(0, 0, 0), 1);
        Check.refused(x, "apart(0, 0)", x.apart(0, 0), 1);
        Check.refused(x, "near(0)", x.near(0), 1);
        Check.refused(x, "asNear(0)", x.asNear(0), 1);
        Check.refused(x, "heardIn(0, 0)", x.heardIn(0, 0), 1);
        Check.refused(x, "strange(0)", x.strange(0), 1);
        Check.refused(x, "arrival(0, 0, 0, 0)", x.arrival(0, 0, 0, 0), 1);
        Check.refused(x, "brings(0, 0)", x.brings(0, 0), 1);
        Check.refused(x, "soonest(0)", x.soonest(0), 1);
        Check.refused(x, "surest(0)", x.surest(0), 1);
        Check.refused(x, "by(0, 0)", x.by(0, 0), 1);
        Check.refused(x, "registered(0, true)", x.registered(0, true), 1);
        Check.refused(x, "matchOf(0)", x.matchOf(0), 1);
        Check.refused(x, "meet(0, 0, 1, 1)", x.meet(0, 0, 1, 1), 1);
        Check.refused(x, "reach(0, 0)", x.reach(0, 0), 1);
        Check.refused(x, "watch(0, 1)", x.watch(0, 1), 1);
        Check.refused(x, "round(0)", x.round(0), 1);
        Check.refused(x, "roundAt(0, 0)", x.roundAt(0, 0), 1);
        Check.refused(x, "send(0, 0)", x.send(0, 0), 1);
        Check.refused(x, "tune(0, 0, 0)", x.tune(0, 0, 0), 1);
        Check.refused(x, "close(0, true)", x.close(0, true), 1);
    }

    private static void promise01NothingToUndoNorToGoBackTo() {
        WhalePost x = new WhalePost();
        Check.refused(x, "undo()", x.undo(), 6);
        Check.refused(x, "back(0)", x.back(0), 1);
    }

    private static void promise01NoBoxIsLed() {
        boolean thrown = false;
        try {
            new WhalePost().led(0);
        } catch (NoSuchElementException e) {
            thrown = true;
        }
        Check.due("led(0) throws", thrown, true);
    }

    private static void promise01ObjectsShareNothing() {
        WhalePost x = Check.posted(Check.WORLD);
        WhalePost y = new WhalePost();
        Check.due("size(4) of another", y.size(4), 0);
        y.feed(0, 0, 0, 0, 0);
        Check.due("size(12) of the first", x.size(12), 0);
    }

    // ---- promise 2: feed

    private static void promise02TwentyBytesEachTime() {
        WhalePost x = new WhalePost();
        Check.due("feed", x.feed(1, 2, 3, 4, 5), 20);
        Check.due("feed", x.feed(-1, -1, -1, -1, -1), 40);
        Check.due("size(12)", x.size(12), 40);
    }

    private static void promise02OneThousandIsFull() {
        WhalePost x = new WhalePost();
        for (int k = 1; k <= 50; k++) {
            Check.due("feed " + k, x.feed(0, 0, 0, 0, 0), 20 * k);
        }
        Check.due("feed 51", x.feed(0, 0, 0, 0, 0), -1);
        Check.due("size(12)", x.size(12), 1000);
    }

    private static void promise02WhatIsRefusedDoesNotCome() {
        WhalePost x = new WhalePost();
        String text = padded(Check.HEAD + "island a ab;", "island b ba", 1000);
        Check.due("feed", Check.feed(x, text), 1000);
        Check.due("feed", x.feed(-1, -1, -1, -1, -1), -1);
        Check.granted(x, "post(1000)", x.post(1000), 2);
    }

    private static void promise02FullTapeTakesMoreBehindAPost() {
        WhalePost x = new WhalePost();
        for (int k = 0; k < 50; k++) {
            x.feed(0, 0, 0, 0, 0);
        }
        x.post(1000);
        Check.due("feed", x.feed(0, 0, 0, 0, 0), 20);
    }

    private static void promise02TheHighestByteIsTheFirst() {
        WhalePost x = new WhalePost();
        // "post" and a mark: the place tells where the mark came to stand.
        x.feed(0x706f7374, 0x20202e20, 0x20202020, 0x20202020, 0x20202020);
        x.post(20);
        Check.due("where()", x.where(), 6);
        x.feed(0x706f7374, 0x20202020, 0x2020202e, 0x20202020, 0x20202020);
        x.post(20);
        Check.due("where()", x.where(), 11);
        x.feed(0x706f7374, 0x20202020, 0x20202020, 0x20202020, 0x2e202020);
        x.post(20);
        Check.due("where()", x.where(), 16);
    }

    private static void promise02AHighByteDoesNotTouchTheOthers() {
        WhalePost x = new WhalePost();
        x.feed(0x706f7374, 0x80202020, 0x20202020, 0x20202020, 0x20202020);
        x.post(20);
        Check.due("fault()", x.fault(), 1);
        Check.due("where()", x.where(), 4);
        x.feed(0x706f7374, 0x202020ff, 0xffffffff, 0x20202020, 0x20202020);
        x.post(20);
        Check.due("where()", x.where(), 7);
    }

    private static void promise02RefusedItIsNoTrouble() {
        WhalePost x = new WhalePost();
        for (int k = 0; k < 51; k++) {
            x.feed(0, 0, 0, 0, 0);
        }
        Check.due("trouble()", x.trouble(), 0);
    }

    private static void promise02GrantedItLeavesTheTrouble() {
        WhalePost x = new WhalePost();
        x.undo();
        x.feed(0, 0, 0, 0, 0);
        Check.due("trouble()", x.trouble(), 6);
    }

    // ---- promise 3: post

    private static void promise03BelowZero() {
        WhalePost x = new WhalePost();
        Check.refused(x, "post(-1)", x.post(-1), 2);
        Check.refused(x, "post(least)", x.post(Integer.MIN_VALUE), 2);
    }

    private static void promise03OneMoreThanTheTape() {
        WhalePost x = new WhalePost();
        Check.refused(x, "post(1), an empty tape", x.post(1), 2);
        Check.feed(x, TWO + "island c aa");
        int size = x.size(12);
        Check.refused(x, "post() of one more", x.post(size + 1), 2);
        Check.refused(x, "post(most)", x.post(Integer.MAX_VALUE), 2);
        Check.granted(x, "post() of all", x.post(size), 3);
    }

    private static void promise03OneMoreThanAFullTape() {
        WhalePost x = new WhalePost();
        Check.feed(x, padded(Check.HEAD + "island a ab;", "island b ba", 1000));
        Check.refused(x, "post(1001)", x.post(1001), 2);
        Check.granted(x, "post(1000)", x.post(1000), 2);
    }

    private static void promise03NothingOfATapeIsAnEmptyText() {
        WhalePost x = new WhalePost();
        Check.refused(x, "post(0), an empty tape", x.post(0), 4);
        Check.feed(x, TWO);
        Check.refused(x, "post(0)", x.post(0), 4);
        Check.due("fault()", x.fault(), 1);
        Check.due("where()", x.where(), 0);
        Check.due("size(12)", x.size(12), 0);
    }

    private static void promise03RefusedBy2TheTapeStays() {
        WhalePost x = new WhalePost();
        Check.feed(x, Check.HEAD + "island a ab");
        x.post(-1);
        x.post(1001);
        Check.due("size(12)", x.size(12), 60);
        Check.granted(x, "post(60)", x.post(60), 1);
    }

    private static void promise03RefusedBy2ThePostStays() {
        WhalePost x = Check.posted(Check.WORLD);
        changeAll(x);
        x.post(1);
        dueAsChanged(x);
    }

    private static void promise03RefusedBy4TheTapeIsEmpty() {
        WhalePost x = new WhalePost();
        Check.feed(x, "post notes 9");
        Check.refused(x, "post(12)", x.post(12), 4);
        Check.due("size(12)", x.size(12), 0);
        Check.refused(x, "post(1)", x.post(1), 2);
    }

    private static void promise03RefusedBy4ThePostStays() {
        WhalePost x = Check.posted(Check.WORLD);
        changeAll(x);
        // The fault comes at the end, when most of another POST is told.
        Check.refused(x, "post()", Check.tell(x, WHALES + "box x from a to b weighs 9 day 9;spout w b day 3;spout w b day 3"), 4);
        dueAsChanged(x);
    }

    private static void promise03GrantedTheTapeIsEmpty() {
        WhalePost x = new WhalePost();
        Check.feed(x, Check.HEAD + "island a ab;island b ba");
        Check.granted(x, "post(48) of 60", x.post(48), 1);
        Check.due("size(12), the rest is gone", x.size(12), 0);
        Check.due("feed", x.feed(0, 0, 0, 0, 0), 20);
    }

    private static void promise03WhatStandsBehindNIsNoPartOfIt() {
        WhalePost x = new WhalePost();
        Check.feed(x, Check.HEAD + "island a ab. .");
        Check.granted(x, "post() ahead of the mark", x.post(Check.HEAD.length() + 11), 1);
        Check.feed(x, Check.HEAD + "island a ab");
        Check.refused(x, "post() of half a song", x.post(Check.HEAD.length() + 10), 4);
        Check.due("fault()", x.fault(), 7);
    }

    private static void promise03AllBeginsAnew() {
        WhalePost x = Check.posted(Check.WORLD);
        changeAll(x);
        Check.granted(x, "post()", Check.tell(x, Check.WORLD), 4);
        Check.due("size(9)", x.size(9), 0);
        Check.due("whale(1, 1)", x.whale(1, 1), 0);
        Check.due("whale(1, 2)", x.whale(1, 2), 0);
        Check.due("box(0, 4)", x.box(0, 4), -2);
        Check.due("box(0, 5)", x.box(0, 5), -2);
        Check.due("sung(1, 0)", x.sung(1, 0), 1);
        Check.due("way(0, 1)", x.way(0, 1), 10);
        Check.due("sent(0)", x.sent(0), 0);
    }

    private static void promise03NothingToUndoBehindIt() {
        WhalePost x = Check.posted(Check.WORLD);
        changeAll(x);
        Check.tell(x, Check.WORLD);
        Check.due("size(10)", x.size(10), 0);
        Check.refused(x, "undo()", x.undo(), 6);
    }

    private static void promise03NoImagesBehindIt() {
        WhalePost x = Check.posted(Check.WORLD);
        x.image();
        x.image();
        x.image();
        Check.tell(x, Check.WORLD);
        Check.due("size(11)", x.size(11), 0);
        Check.refused(x, "back(0)", x.back(0), 1);
        Check.granted(x, "image()", x.image(), 0);
    }

    private static void promise03ASmallerPostLeavesNoRows() {
        WhalePost x = Check.posted(Check.WORLD);
        Check.granted(x, "post()", Check.tell(x, Check.HEAD + "island a ab"), 1);
        int[] want = {2, 0, 0, 0, 1, 0, 0, 0, 0};
        for (int what = 0; what < want.length; what++) {
            Check.due("size(" + what + ")", x.size(what), want[what]);
        }
        Check.refused(x, "whale(0, 0)", x.whale(0, 0), 1);
        Check.refused(x, "box(0, 0)", x.box(0, 0), 1);
        Check.refused(x, "length(1)", x.length(1), 1);
        Check.refused(x, "close(0, true)", x.close(0, true), 1);
    }

    private static void promise03NothingIsLeftOfThePostAheadOfTheLast() {
        WhalePost x = Check.posted(Check.WORLD);
        Check.tell(x, Check.WORLD);
        Check.granted(x, "post()", Check.tell(x, Check.HEAD + "island a ab"), 1);
        for (int what = 5; what <= 8; what++) {
            Check.due("size(" + what + ")", x.size(what), 0);
        }
        Check.refused(x, "whale(0, 0)", x.whale(0, 0), 1);
        Check.refused(x, "box(0, 0)", x.box(0, 0), 1);
    }

    private static void promise03NothingIsLeftOfATextWithAFault() {
        WhalePost x = new WhalePost();
        Check.refused(x, "post() with a fault", Check.tell(x, Check.WORLD + "."), 4);
        Check.granted(x, "post()", Check.tell(x, Check.HEAD + "island bo ab;island y ba"), 2);
        for (int what = 5; what <= 8; what++) {
            Check.due("size(" + what + ")", x.size(what), 0);
        }
        Check.granted(x, "apart(0, 1)", x.apart(0, 1), 2);
    }

    private static void promise03OneIslandIsEnough() {
        good(Check.HEAD + "island a ab", 1);
    }

    private static void promise03BlanksMeanNothingElse() {
        good("   post   notes 2 errors 0 drift 0 slip 0   ;   island   a   ab   ", 1);
        good("post notes 2 errors 0 drift 0 slip 0;island a ab", 1);
    }

    private static void promise03NoBlanksBetweenWordsAndWholes() {
        good("post notes2errors0drift0slip0;island a ab", 1);
    }

    private static void promise03NamesOfKeysAreFine() {
        good(Check.HEAD + "island notes ab;island at ba;way notes at days 1 open 1;whale calf cow at at keeps 0 lost 0;"
            + "box day from notes to at weighs 1 day 0;spout calf at day 0", 2);
    }

    private static void promise03LinesInAnyOrderBehindThePost() {
        good(Check.HEAD + "island a ab;box x from a to a weighs 1 day 0;whale w old at a keeps 0 lost 0;spout w a day 0;"
            + "island b ba;way b a days 1 open 1;box y from b to a weighs 1 day 0", 2);
    }

    private static void promise03WholesMayBeginWithZeros() {
        good("post notes 0002 errors 0000 drift 0050 slip 0100;island a ab", 1);
    }

    private static void promise03ASongMayBeAName() {
        good(Check.HEAD + "island ab ab;island ba ba", 2);
    }

    // ---- promise 4: faults, their bounds

    private static void promise04NotesBounds() {
        bounds("post notes # errors 0 drift 0 slip 0;island a ab", 2, 4);
    }

    private static void promise04ErrorsBounds() {
        bounds("post notes 2 errors # drift 0 slip 0;island a ab", 0, 3);
    }

    private static void promise04DriftBounds() {
        bounds("post notes 2 errors 0 drift # slip 0;island a ab", 0, 50);
    }

    private static void promise04SlipBounds() {
        bounds("post notes 2 errors 0 drift 0 slip #;island a ab", 0, 100);
    }

    private static void promise04WayDaysBounds() {
        bounds(TWO + "way a b days # open 1", 1, 99);
    }

    private static void promise04WayOpenBounds() {
        bounds(TWO + "way a b days 1 open #", 1, 15);
    }

    private static void promise04KeepsBounds() {
        bounds(TWO + "whale w cow at a keeps # lost 0", 0, 99);
    }

    private static void promise04LostBounds() {
        bounds(TWO + "whale w cow at a keeps 0 lost #", 0, 99);
    }

    private static void promise04WeighsBounds() {
        bounds(TWO + "box x from a to b weighs # day 0", 1, 99);
    }

    private static void promise04BoxDayBounds() {
        good(TWO + "box x from a to b weighs 1 day 0", 2);
        good(TWO + "box x from a to b weighs 1 day 9999", 2);
        fault(TWO + "box x from a to b weighs 1 day ^10000", 1);
    }

    private static void promise04SpoutDayBounds() {
        good(WHALES + "spout w a day 0", 2);
        good(WHALES + "spout w a day 9999", 2);
        fault(WHALES + "spout w a day ^10000", 1);
    }

    private static void promise04SpoutDayAboveTheLast() {
        good(WHALES + "spout w a day 7;spout w b day 8", 2);
        fault(WHALES + "spout w a day 7;spout w b day ^7", 4);
        fault(WHALES + "spout w a day 7;spout w b day ^6", 4);
        fault(WHALES + "spout w a day 9999;spout w b day ^9999", 4);
        fault(WHALES + "spout w a day 0;spout w b day ^0", 4);
    }

    private static void promise04SpoutDayOfAnotherWhale() {
        good(WHALES + "spout w a day 7;spout v a day 7;spout v a day 8;spout w a day 8", 2);
        good(WHALES + "spout w a day 7;spout v a day 0", 2);
    }

    // ---- promise 4: fault 1

    private static void promise04EmptyText() {
        fault("^", 1);
    }

    private static void promise04BlanksAlone() {
        fault("     ^", 1);
    }

    private static void promise04SemicolonAhead() {
        fault("^;" + Check.HEAD + "island a ab", 1);
    }

    private static void promise04SemicolonAtTheEnd() {
        fault(Check.HEAD + "island a ab;^", 1);
        fault(Check.HEAD + "island a ab;   ^", 1);
    }

    private static void promise04TwoSemicolons() {
        fault(Check.HEAD + "^;island a ab", 1);
        fault(Check.HEAD + "island a ab; ^;island b ba", 1);
    }

    private static void promise04NoSemicolonBetweenLines() {
        fault("post notes 2 errors 0 drift 0 slip 0 ^island a ab", 1);
        fault(Check.HEAD + "island a ab ^island b ba", 1);
        fault(TWO + "way a b days 1 open 1 ^2", 1);
    }

    private static void promise04TooLongWhereASemicolonIsDue() {
        fault(Check.HEAD + "island a ab ^abcdefghi", 1);
        fault(Check.HEAD + "island a ab ^abcdefghi island b ba", 1);
        fault(TWO + "way a b days 1 open 1 ^12345", 1);
        fault("post notes 2 errors 0 drift 0 slip 0 ^00000 island a ab", 1);
    }

    private static void promise04TooLongForEachSortOfToken() {
        fault("post notes ^00002 errors 0 drift 0 slip 0", 1);
        fault("post ^notesnote 2", 1);
        fault(Check.HEAD + "^islandisl a ab", 1);
        fault(TWO + "way ^aaaaaaaaa b days 1 open 1", 1);
        fault(TWO + "whale w ^calfcalfc at a keeps 0 lost 0", 1);
    }

    private static void promise04WordOfEightLetters() {
        good(Check.HEAD + "island abcdefgh ab", 1);
        fault(Check.HEAD + "island ^abcdefghi ab", 1);
        fault("^postpostp", 1);
    }

    private static void promise04NamesOfEightLettersAreToldApart() {
        good(Check.HEAD + "island abcdefgh ab;island abcdefgi ba;island bbcdefgh aa", 3);
        fault(Check.HEAD + "island zzzzzzzz ab;island ^zzzzzzzz ba", 3);
        good(Check.HEAD + "island z ab;island zz ba;island zzz aa;island a bb", 4);
    }

    private static void promise04NamesThatAreNearlyAlike() {
        good(Check.HEAD + "island a ab;island aa ba;island aaa aa;island b bb;island ba aba;island ab bab;island q abab", 7);
        good(Check.HEAD + "island q ab;island aq ba;island aaq aa;island zq bb;island z aba;island y bab;island pz abab", 7);
        good(Check.HEAD + "island ca ab;island aa ba;island ea aa;island ga bb;island ia aba;island qa bab;island ya abab", 7);
        fault(Check.HEAD + "island aa ab;way ^a a", 2);
        fault(Check.HEAD + "island q ab;way ^aq q", 2);
        fault(Check.HEAD + "island abcdefgh ab;way ^bcdefgh a", 2);
        fault(Check.HEAD + "island zbcdefgh ab;way ^bcdefgh a", 2);
    }

    private static void promise04WholeOfFourDigits() {
        fault(TWO + "way a b days ^1000", 4);
        fault(TWO + "way a b days ^9999", 4);
        fault(TWO + "way a b days ^00001", 1);
        fault(TWO + "way a b days ^99999", 1);
    }

    private static void promise04BytesBesideTheLetters() {
        fault(Check.HEAD + "^`", 1);
        fault(Check.HEAD + "^{", 1);
        fault(Check.HEAD + "island ^A ab", 1);
        fault(Check.HEAD + "island ^Z ab", 1);
        good(Check.HEAD + "island az ab", 1);
    }

    private static void promise04BytesBesideTheDigits() {
        fault("post notes ^/", 1);
        fault("post notes ^:", 1);
        fault("post notes ^-2", 1);
        fault("post notes ^+2", 1);
    }

    private static void promise04BytesBesideTheBlank() {
        fault("post^\tnotes 2", 1);
        fault("post^\nnotes 2", 1);
        fault("post^\u0000", 1);
        fault("post^\u001f", 1);
        fault("post^!", 1);
        fault("post^\u00a0", 1);
    }

    private static void promise04BytesAbove127() {
        fault("post^\u0080", 1);
        fault("post^\u00ff", 1);
        fault("post notes ^\u00b2", 1);
        fault("post ^\u00e1", 1);
    }

    private static void promise04AWordForAWhole() {
        fault("post notes ^two errors 0 drift 0 slip 0", 1);
        fault(TWO + "way a b days 1 open ^all", 1);
    }

    private static void promise04AWholeForAWord() {
        fault("post ^2", 1);
        fault("^2", 1);
        fault(Check.HEAD + "island ^1 ab", 1);
        fault(Check.HEAD + "island a ^1", 1);
        fault(TWO + "way a ^1", 1);
        fault(TWO + "whale w ^1", 1);
    }

    private static void promise04ASemicolonForAToken() {
        fault("post^;", 1);
        fault("post notes^;", 1);
        fault(Check.HEAD + "island^;", 1);
        fault(Check.HEAD + "island a^;", 1);
        fault(TWO + "way a^;", 1);
        fault(TWO + "whale w cow at a keeps 0 lost^;", 1);
        fault(WHALES + "spout w a day^;", 1);
    }

    private static void promise04EachKeyOfThePost() {
        eachKey("post notes 2 errors 0 drift 0 slip 0", "notes", "errors", "drift", "slip");
    }

    private static void promise04EachKeyOfAWay() {
        eachKey(TWO + "way a b days 1 open 1", "days", "open");
    }

    private static void promise04EachKeyOfAWhale() {
        eachKey(TWO + "whale w cow at a keeps 0 lost 0", "at", "keeps", "lost");
    }

    private static void promise04EachKeyOfABox() {
        eachKey(TWO + "box x from a to b weighs 1 day 0", "from", "to", "weighs", "day");
    }

    private static void promise04EachKeyOfASpout() {
        eachKey(WHALES + "spout w a day 0", "day");
    }

    private static void promise04TheEndInEveryLine() {
        eachEnd("", "post notes 2 errors 0 drift 0 slip 0");
        eachEnd(Check.HEAD, "island a ab");
        eachEnd(TWO, "way a b days 1 open 1");
        eachEnd(TWO, "whale w cow at a keeps 0 lost 0");
        eachEnd(TWO, "box x from a to b weighs 1 day 0");
        eachEnd(WHALES, "spout w a day 0");
    }

    private static void promise04NoKindOfWhale() {
        for (String kind : new String[] {"calf", "cow", "bull", "old"}) {
            good(TWO + "whale w " + kind + " at a keeps 0 lost 0", 2);
        }
        fault(TWO + "whale w ^cal at a keeps 0 lost 0", 1);
        fault(TWO + "whale w ^cows at a keeps 0 lost 0", 1);
        fault(TWO + "whale w ^whale at a keeps 0 lost 0", 1);
        fault(TWO + "whale w ^at a keeps 0 lost 0", 1);
    }

    private static void promise04NoWordOfALine() {
        fault(Check.HEAD + "^islands a ab", 1);
        fault(Check.HEAD + "^islan a ab", 1);
        fault("^posts notes 2", 1);
        fault("^foo", 1);
    }

    private static void promise04ReservedWordAsANewName() {
        for (String word : RESERVED) {
            fault(Check.HEAD + "island ^" + word + " ab", 1);
            fault(TWO + "whale ^" + word + " cow at a keeps 0 lost 0", 1);
            fault(TWO + "box ^" + word + " from a to b weighs 1 day 0", 1);
        }
    }

    private static void promise04ReservedWordForAToldName() {
        for (String word : RESERVED) {
            fault(TWO + "way ^" + word + " b days 1 open 1", 1);
            fault(TWO + "way a ^" + word + " days 1 open 1", 1);
            fault(TWO + "whale w cow at ^" + word, 1);
            fault(TWO + "box x from ^" + word, 1);
            fault(TWO + "box x from a to ^" + word, 1);
            fault(WHALES + "spout ^" + word, 1);
            fault(WHALES + "spout w ^" + word, 1);
        }
    }

    // ---- promise 4: faults 2 and 3

    private static void promise04NameThatIsNotTold() {
        fault(TWO + "way ^c b days 1 open 1", 2);
        fault(TWO + "way a ^c days 1 open 1", 2);
        fault(TWO + "whale w cow at ^c keeps 0 lost 0", 2);
        fault(TWO + "box x from ^c to a weighs 1 day 0", 2);
        fault(TWO + "box x from a to ^c weighs 1 day 0", 2);
        fault(WHALES + "spout ^u a day 0", 2);
        fault(WHALES + "spout w ^c day 0", 2);
    }

    private static void promise04NameThatIsToldLater() {
        fault(Check.HEAD + "island a ab;way a ^b days 1 open 1;island b ba", 2);
        fault(TWO + "spout ^w a day 0;whale w cow at a keeps 0 lost 0", 2);
    }

    private static void promise04NameOfThePostAhead() {
        WhalePost x = Check.posted(TWO + "whale w cow at a keeps 0 lost 0");
        Check.refused(x, "post()", Check.tell(x, Check.HEAD + "island a ab;way a b days 1 open 1"), 4);
        Check.due("fault()", x.fault(), 2);
        Check.granted(x, "post(): names are free again", Check.tell(x, Check.HEAD + "island w ab"), 1);
    }

    private static void promise04NameOfAnotherSort() {
        String all = WHALES + "box x from a to b weighs 1 day 0;";
        fault(all + "way ^w b days 1 open 1", 2);
        fault(all + "way ^x b days 1 open 1", 2);
        fault(all + "way a ^w days 1 open 1", 2);
        fault(all + "whale u cow at ^w", 2);
        fault(all + "whale u cow at ^u", 2);
        fault(all + "box y from ^x", 2);
        fault(all + "box y from a to ^y", 2);
        fault(all + "spout ^a a day 0", 2);
        fault(all + "spout ^x a day 0", 2);
        fault(all + "spout w ^w day 0", 2);
        fault(all + "spout w ^x day 0", 2);
    }

    private static void promise04NameToldAgain() {
        String all = WHALES + "box x from a to b weighs 1 day 0;";
        for (String name : new String[] {"a", "w", "x"}) {
            fault(all + "island ^" + name + " aa", 3);
            fault(all + "whale ^" + name + " cow at a keeps 0 lost 0", 3);
            fault(all + "box ^" + name + " from a to b weighs 1 day 0", 3);
        }
    }

    private static void promise04SongToldAgain() {
        fault(Check.HEAD + "island a ab;island b ^ab", 3);
        fault(Check.HEAD + "island a aaaaaa;island b bb;island c ^aaaaaa", 3);
    }

    private static void promise04SongsOfUnlikeLengthsAreUnlike() {
        good(Check.HEAD + "island a aa;island b aaa;island c aaaa;island d aaaaa;island e aaaaaa", 5);
    }

    private static void promise04WayToItself() {
        fault(TWO + "way a ^a days 1 open 1", 3);
    }

    private static void promise04WayToldTwice() {
        fault(TWO + "way a b days 1 open 1;way a ^b days 1 open 1", 3);
    }

    private static void promise04WayToldTwiceTheOtherWayRound() {
        fault(TWO + "way a b days 1 open 1;way b ^a days 1 open 1", 3);
    }

    private static void promise04WaysThatShareAnEnd() {
        good(TWO + "island c aa;way a b days 1 open 1;way c a days 1 open 1;way b c days 1 open 1", 3);
    }

    private static void promise04SecondPost() {
        fault(Check.HEAD + "^post notes 2 errors 0 drift 0 slip 0", 3);
        fault(TWO + "^post", 3);
    }

    // ---- promise 4: fault 5

    private static void promise04SevenIslandsAreFull() {
        good(sevenIslands(), 7);
        fault(sevenIslands() + ";^island i abcd", 5);
    }

    private static void promise04TwelveWaysAreFull() {
        StringBuilder text = new StringBuilder(sevenIslands());
        int ways = 0;
        for (char i = 'a'; i <= 'g'; i++) {
            for (char j = 'a'; j < i && ways < 12; j++) {
                text.append(";way i").append(i).append(" i").append(j).append(" days 1 open 1");
                ways++;
            }
        }
        good(text.toString(), 7);
        fault(text + ";^way ig if days 1 open 1", 5);
    }

    private static void promise04FiveWhalesAreFull() {
        full("whale n# cow at ia keeps 0 lost 0", 5, "whale");
    }

    private static void promise04EightBoxesAreFull() {
        full("box n# from ia to ib weighs 1 day 0", 8, "box");
    }

    private static void promise04EightSpoutsAreFull() {
        full("spout w ia day *", 8, "spout");
    }

    private static void promise04FullOfAllSorts() {
        StringBuilder text = new StringBuilder("post notes 4 errors 0 drift 0 slip 0");
        for (char k = 'a'; k <= 'g'; k++) {
            text.append(";island ").append(k).append(" aa").append((char) ('a' + (k - 'a') / 4)).append((char) ('a' + (k - 'a') % 4));
        }
        int ways = 0;
        for (char i = 'b'; i <= 'g'; i++) {
            for (char j = 'a'; j < i && ways < 12; j++) {
                text.append(";way ").append(i).append(' ').append(j).append(" days 1 open 1");
                ways++;
            }
        }
        for (char k = 'h'; k <= 'l'; k++) {
            text.append(";whale ").append(k).append(" old at a keeps 0 lost 0");
        }
        for (char k = 'm'; k <= 't'; k++) {
            text.append(";box ").append(k).append(" from a to b weighs 1 day 0");
        }
        for (int k = 0; k < 8; k++) {
            text.append(";spout h a day ").append(k);
        }
        WhalePost x = new WhalePost();
        Check.granted(x, "post() of " + text.length() + " bytes", Check.tell(x, text.toString()), 7);
        int[] want = {4, 0, 0, 0, 7, 12, 5, 8, 8};
        for (int what = 0; what < want.length; what++) {
            Check.due("size(" + what + ")", x.size(what), want[what]);
        }
    }

    private static void promise04FullOfOneSortIsNotFullOfAnother() {
        good(sevenIslands() + ";whale w cow at ia keeps 0 lost 0;box x from ia to ib weighs 1 day 0", 7);
    }

    // ---- promise 4: faults 6 and 7

    private static void promise04LinesAheadOfThePost() {
        fault("^island a ab;post notes 2 errors 0 drift 0 slip 0", 6);
        fault("^way a b", 6);
        fault("   ^whale", 6);
        fault("^box;", 6);
        fault("^spout .", 6);
    }

    private static void promise04NoIsland() {
        fault("post notes 2 errors 0 drift 0 slip 0^", 6);
        fault("post notes 2 errors 0 drift 0 slip 0   ^", 6);
    }

    private static void promise04NoIslandAndNoLineEither() {
        fault("post notes 2 errors 0 drift 0 slip 0;^", 1);
    }

    private static void promise04SongOfOneLetter() {
        fault(Check.HEAD + "island a ^a", 7);
        good(Check.HEAD + "island a aa", 1);
    }

    private static void promise04SongOfMoreThanSix() {
        good(Check.HEAD + "island a ababab", 1);
        fault(Check.HEAD + "island a ^abababa", 7);
        fault(Check.HEAD + "island a ^abababab", 7);
        fault(Check.HEAD + "island a ^ababababa", 1);
    }

    private static void promise04SongWithALetterThatIsNoNote() {
        String[] last = {"b", "c", "d"};
        String[] next = {"c", "d", "e"};
        for (int notes = 2; notes <= 4; notes++) {
            String head = "post notes " + notes + " errors 0 drift 0 slip 0;island a ";
            good(head + "a" + last[notes - 2], 1);
            fault(head + "^a" + next[notes - 2], 7);
            fault(head + "^" + next[notes - 2] + "a", 7);
            fault(head + "^z", 7);
        }
    }

    private static void promise04SongOfAReservedWord() {
        fault(Check.HEAD + "island a ^way", 7);
        fault(Check.HEAD + "island a ^island", 7);
    }

    // ---- promise 4: which is the first

    private static void promise04TheFirstFromTheLeft() {
        fault("post notes ^9 errors 9 .", 4);
        fault(Check.HEAD + "island a ^c;;", 7);
        fault(TWO + "way a ^a .", 3);
        fault(TWO + "way ^c .", 2);
        fault("^island .", 6);
        fault(sevenIslands() + ";^island .", 5);
        fault(Check.HEAD + "^. island a a", 1);
    }

    private static void promise04OfOnePlaceTheLeast() {
        // Neither told nor unlike the first: there is none such ahead of all else.
        fault(Check.HEAD + "way ^a a", 2);
        fault("post notes 2 errors 0 drift 0 slip^", 1);
        fault(TWO + "box x from a to b weighs 1 day ^12345", 1);
    }

    private static void promise04OfTheLatestPost() {
        WhalePost x = new WhalePost();
        Check.tell(x, "post notes 9");
        Check.due("fault()", x.fault(), 4);
        Check.tell(x, "island");
        Check.due("fault()", x.fault(), 6);
        Check.tell(x, TWO + "island c aa");
        Check.due("fault()", x.fault(), 0);
    }

    private static void promise04RefusedBy2ItStays() {
        WhalePost x = new WhalePost();
        Check.tell(x, "post notes 9");
        x.post(1);
        Check.due("fault()", x.fault(), 4);
        Check.tell(x, TWO + "island c aa");
        x.post(-1);
        Check.due("fault()", x.fault(), 0);
    }

    private static void promise04OtherCallsLeaveIt() {
        WhalePost x = Check.posted(Check.WORLD);
        Check.tell(x, "post notes 9");
        x.years(1);
        x.image();
        x.undo();
        x.back(0);
        x.length(9);
        Check.due("fault()", x.fault(), 4);
    }

    private static void promise04ItLeavesTheTrouble() {
        WhalePost x = Check.posted(Check.WORLD);
        x.years(0);
        x.fault();
        Check.due("trouble()", x.trouble(), 2);
    }

    // ---- promise 5: where

    private static void promise05NoneBehindAGrantedPost() {
        Check.due("where()", Check.posted(Check.WORLD).where(), -1);
    }

    private static void promise05NoneBehindARefusalBy2() {
        WhalePost x = new WhalePost();
        Check.tell(x, "post notes 9");
        Check.due("where()", x.where(), 11);
        x.post(1);
        Check.due("where()", x.where(), -1);
    }

    private static void promise05NoneBehindAnyOtherCallThatMayBeRefused() {
        WhalePost x = Check.posted(Check.WORLD);
        Check.tell(x, "post notes 9");
        x.length(0);
        Check.due("where() behind a granted one", x.where(), -1);
        Check.tell(x, "post notes 9");
        x.length(9);
        Check.due("where() behind a refused one", x.where(), -1);
        Check.tell(x, "post notes 9");
        x.undo();
        Check.due("where() behind undo()", x.where(), -1);
    }

    private static void promise05CallsThatCannotBeRefusedLeaveIt() {
        WhalePost x = Check.posted(Check.WORLD);
        Check.tell(x, "post notes 9");
        x.feed(0, 0, 0, 0, 0);
        x.fault();
        x.size(99);
        x.led(0);
        x.trouble();
        Check.due("where()", x.where(), 11);
        Check.due("where() again", x.where(), 11);
    }

    private static void promise05TheLastPlaceOfAFullTape() {
        WhalePost x = new WhalePost();
        Check.tell(x, padded(Check.HEAD + "island a ab", ".", 1000));
        Check.due("where()", x.where(), 999);
        Check.tell(x, padded(Check.HEAD + "island a ab", ";", 1000));
        Check.due("where() at the end", x.where(), 1000);
    }

    private static void promise05TheFirstPlace() {
        WhalePost x = new WhalePost();
        Check.tell(x, ".");
        Check.due("where()", x.where(), 0);
    }

    // ---- what the tests share

    private static void changeAll(WhalePost x) {
        x.send(1, 0);
        x.tune(1, 0, 0);
        x.years(7);
        x.close(0, true);
        x.image();
    }

    private static void dueAsChanged(WhalePost x) {
        Check.due("size(4) stays", x.size(4), 4);
        Check.due("size(6) stays", x.size(6), 4);
        Check.due("size(9) stays", x.size(9), 7);
        Check.due("size(10) stays", x.size(10), 4);
        Check.due("size(11) stays", x.size(11), 1);
        Check.due("whale(1, 1) stays", x.whale(1, 1), 1);
        Check.due("whale(1, 2) stays", x.whale(1, 2), 15);
        Check.due("whale(3, 4) stays", x.whale(3, 4), 30);
        Check.due("box(0, 4) stays", x.box(0, 4), 15);
        Check.due("box(2, 2) stays", x.box(2, 2), 50);
        Check.due("sung(1, 0) stays", x.sung(1, 0), 0);
        Check.due("way(0, 1) stays closed", x.way(0, 1), -2);
        Check.due("way(1, 2) stays", x.way(1, 2), 20);
        Check.due("undo()", x.undo(), true);
        Check.due("way(0, 1) is open", x.way(0, 1), 10);
    }

    private static String padded(String ahead, String behind, int length) {
        return ahead + " ".repeat(length - ahead.length() - behind.length()) + behind;
    }

    private static String sevenIslands() {
        StringBuilder text = new StringBuilder("post notes 4 errors 0 drift 0 slip 0");
        for (int i = 0; i < 7; i++) {
            text.append(";island i").append((char) ('a' + i)).append(" a").append((char) ('a' + i / 4)).append((char) ('a' + i % 4));
        }
        return text.toString();
    }

    private static void full(String row, int room, String sort) {
        StringBuilder text = new StringBuilder(sevenIslands());
        if (sort.equals("spout")) {
            text.append(";whale w cow at ia keeps 0 lost 0");
        }
        for (int k = 0; k < room; k++) {
            text.append(';').append(row.replace("#", String.valueOf((char) ('a' + k))).replace("*", String.valueOf(k)));
        }
        good(text.toString(), 7);
        fault(text + ";^" + sort, 5);
        fault(text + ";^" + row.replace("#", "z").replace("*", "99"), 5);
    }

    private static void bounds(String text, int least, int most) {
        good(text.replace("#", String.valueOf(least)), -1);
        good(text.replace("#", String.valueOf(most)), -1);
        fault(text.replace("#", "^" + (most + 1)), 4);
        fault(text.replace("#", "^9999"), 4);
        if (least > 0) {
            fault(text.replace("#", "^" + (least - 1)), 4);
        }
    }

    /** Each key in turn is another word, is cut off, or is missing. */
    private static void eachKey(String text, String... keys) {
        for (String key : keys) {
            int at = text.lastIndexOf(" " + key + " ") + 1;
            String ahead = text.substring(0, at);
            String behind = text.substring(at + key.length());
            fault(ahead + "^zz" + behind, 1);
            fault(ahead + "^" + key.substring(1) + "z" + behind, 1);
            fault(ahead + "^" + key + "s" + behind, 1);
            fault(ahead + "^" + behind.substring(1), 1);
        }
    }

    /** The text ends behind each token but the last. */
    private static void eachEnd(String ahead, String line) {
        for (int k = line.indexOf(' '); k >= 0; k = line.indexOf(' ', k + 1)) {
            fault(ahead + line.substring(0, k) + "^", 1);
            fault(ahead + line.substring(0, k) + "  ^", 1);
        }
    }

    private static void good(String text, int islands) {
        WhalePost x = new WhalePost();
        int got = Check.tell(x, text);
        Check.granted(x, "post() of " + text, got, islands < 0 ? Math.max(got, 1) : islands);
        Check.due("fault() of " + text, x.fault(), 0);
    }

    /** The sign ^ stands ahead of the place. */
    private static void fault(String marked, int number) {
        int place = marked.indexOf('^');
        String text = marked.substring(0, place) + marked.substring(place + 1);
        WhalePost x = new WhalePost();
        Check.refused(x, "post() of " + marked, Check.tell(x, text), 4);
        Check.due("fault() of " + marked, x.fault(), number);
        Check.due("where() of " + marked, x.where(), place);
    }
}
