/** The boundary cases of promises 16 to 24, a test each. */
public final class Promises16To24Test {
    private static final int LEAST = Integer.MIN_VALUE;
    private static final int MOST = Integer.MAX_VALUE;

    public static void main(String[] args) {
        Promises.test(Promises16To24Test.class, 16, 24);
    }

    // ---- promise 16: apart

    private static void promise16IslandsBelowAndAbove() {
        WhalePost x = Check.posted(Check.WORLD);
        for (int i : new int[] {-1, 4, LEAST, MOST}) {
            Check.refused(x, "apart(" + i + ", 0)", x.apart(i, 0), 1);
            Check.refused(x, "apart(0, " + i + ")", x.apart(0, i), 1);
        }
    }

    private static void promise16OneIslandTwice() {
        WhalePost x = Check.posted(Check.WORLD);
        Check.granted(x, "apart(0, 0)", x.apart(0, 0), 0);
        Check.granted(x, "apart(3, 3)", x.apart(3, 3), 0);
    }

    private static void promise16UnlikeLengths() {
        WhalePost x = Check.posted(Check.HEAD + "island a aa;island b aaa");
        Check.granted(x, "apart(0, 1)", x.apart(0, 1), -2);
        Check.granted(x, "apart(1, 0)", x.apart(1, 0), -2);
    }

    private static void promise16OneNoteAndAllNotes() {
        WhalePost x = Check.posted("post notes 4 errors 0 drift 0 slip 0;island a aaaaaa;island b daaaaa;island c aaaaab;island d bcdbcd");
        Check.granted(x, "apart(0, 1), the first note", x.apart(0, 1), 1);
        Check.granted(x, "apart(0, 2), the last note", x.apart(0, 2), 1);
        Check.granted(x, "apart(1, 2)", x.apart(1, 2), 2);
        Check.granted(x, "apart(0, 3), all notes", x.apart(0, 3), 6);
    }

    private static void promise16EachPairOfNotes() {
        String[] songs = {"aa", "bb", "cc", "dd"};
        WhalePost x = Check.posted("post notes 4 errors 0 drift 0 slip 0;island a aa;island b bb;island c cc;island d dd");
        for (int i = 0; i < songs.length; i++) {
            for (int j = 0; j < songs.length; j++) {
                Check.granted(x, "apart(" + i + ", " + j + ")", x.apart(i, j), i == j ? 0 : 2);
            }
        }
    }

    private static void promise16WhenTheyHaveFallenRound() {
        WhalePost x = Check.posted("post notes 3 errors 0 drift 1 slip 0;island a abc;island b cbc");
        for (int year = 0; year < 7; year++) {
            Check.granted(x, "apart(0, 1) in year " + year, x.apart(0, 1), 1);
            x.years(1);
        }
    }

    // ---- promise 17: bear

    private static void promise17NoPost() {
        WhalePost x = new WhalePost();
        Check.refused(x, "bear()", x.bear(), 1);
    }

    private static void promise17NoTwoOfLikeLength() {
        bear(-2, "ab");
        bear(-2, "ab", "aba", "abab", "ababa", "ababab");
    }

    private static void promise17EachDistance() {
        bear(0, "aaaaaa", "aaaaab");
        bear(0, "aaaaaa", "aaaabb");
        bear(1, "aaaaaa", "aaabbb");
        bear(1, "aaaaaa", "aabbbb");
        bear(2, "aaaaaa", "abbbbb");
        bear(2, "aaaaaa", "bbbbbb");
    }

    private static void promise17TheNearestTwoCount() {
        bear(1, "aaaaaa", "bbbbbb", "aaabbb");
        bear(0, "bbbbbb", "aaaaaa", "aaaaab");
        bear(2, "aaaaaa", "bbbbbb", "aa");
    }

    private static void promise17ALaterLengthThatBearsOneLess() {
        bear(1, "aaaaaa", "bbbbbb", "aaaa", "bbbb");
        bear(0, "aaa", "bbb", "aa", "bb");
    }

    private static void promise17SevenIslands() {
        bear(-2, "aa", "aaa", "aaaa", "aaaaa", "aaaaaa");
        bear(0, "aaaaaa", "bbbbbb", "aaaaa", "bbbbb", "aaaa", "bbbb", "aaab");
        bear(1, "aaaaaa", "bbbbbb", "aaaaa", "bbbbb", "aaaa", "bbbb", "aa");
    }

    private static void promise17NoSongIsLeftOfAPostAhead() {
        WhalePost x = Check.posted(islands(0, "aa", "ab", "ba", "bb"));
        Check.tell(x, islands(0, "aa", "ab", "ba", "bb"));
        Check.tell(x, islands(0, "aa", "bbb"));
        Check.granted(x, "bear()", x.bear(), -2);
        Check.granted(x, "mixed()", x.mixed(), 0);
        Check.granted(x, "fresh(2, 2)", x.fresh(2, 2), 3);
        Check.granted(x, "byTurns(2, 1)", x.byTurns(2, 1), 3);
    }

    private static void promise17OtherLengthsCountToo() {
        bear(0, "aaaaaa", "bbbbbb", "aa", "ab");
        bear(1, "aaaaaa", "bbbbbb", "aaa", "bbb");
    }

    private static void promise17WhateverTheErrorsAndYears() {
        for (int errors = 0; errors <= 3; errors++) {
            WhalePost x = Check.posted("post notes 2 errors " + errors + " drift 1 slip 0;island a aaaaa;island b bbbbb");
            x.years(1);
            Check.granted(x, "bear()", x.bear(), 2);
        }
    }

    // ---- promise 18: mixed

    private static void promise18NoPost() {
        WhalePost x = new WhalePost();
        Check.refused(x, "mixed()", x.mixed(), 1);
    }

    private static void promise18OneIsland() {
        mixed(0, 3, "ab");
    }

    private static void promise18NoErrorsMixNothing() {
        mixed(0, 0, "aa", "ab", "ba", "bb");
    }

    private static void promise18TwiceTheErrorsApart() {
        mixed(1, 1, "aaaaaa", "aaaabb");
        mixed(0, 1, "aaaaaa", "aaabbb");
        mixed(1, 2, "aaaaaa", "aabbbb");
        mixed(0, 2, "aaaaaa", "abbbbb");
        mixed(1, 3, "aaaaaa", "bbbbbb");
    }

    private static void promise18AnOddNumberApart() {
        mixed(1, 1, "aaa", "aab");
        mixed(1, 2, "aaa", "bbb");
        mixed(1, 3, "aaaaa", "bbbbb");
        mixed(0, 2, "aaaaa", "bbbbb");
    }

    private static void promise18UnlikeLengthsAreNotMixed() {
        mixed(0, 3, "aa", "aaa", "aaaa");
    }

    private static void promise18AllPairsOfSeven() {
        WhalePost x = Check.posted("post notes 4 errors 3 drift 0 slip 0;island a aa;island b ab;island c ac;island d ad;island e ba;island f bb;island g bc");
        Check.granted(x, "mixed()", x.mixed(), 21);
    }

    // ---- promise 19: fresh

    private static void promise19NotesBelowAndAbove() {
        WhalePost x = Check.posted(Check.WORLD);
        for (int notes : new int[] {1, 0, -1, 6, LEAST, MOST}) {
            Check.refused(x, "fresh(" + notes + ", 1)", x.fresh(notes, 1), 2);
        }
        Check.granted(x, "fresh(2, 1)", x.fresh(2, 1), 0);
        Check.granted(x, "fresh(5, 1)", x.fresh(5, 1), 0);
    }

    private static void promise19ApartBelowAndAbove() {
        WhalePost x = Check.posted(Check.WORLD);
        for (int apart : new int[] {0, -1, 6, LEAST, MOST}) {
            Check.refused(x, "fresh(4, " + apart + ")", x.fresh(4, apart), 2);
        }
        Check.granted(x, "fresh(4, 5)", x.fresh(4, 5), 0);
    }

    private static void promise19NoPostAheadOfTheNumbers() {
        WhalePost x = new WhalePost();
        Check.refused(x, "fresh(2, 1)", x.fresh(2, 1), 1);
        Check.refused(x, "fresh(1, 0)", x.fresh(1, 0), 1);
    }

    private static void promise19NoneOfThatLengthIsTheFirstOfAll() {
        WhalePost x = Check.posted(Check.HEAD + "island a aaaaaa");
        for (int notes = 2; notes <= 5; notes++) {
            for (int apart = 1; apart <= 5; apart++) {
                Check.granted(x, "fresh(" + notes + ", " + apart + ")", x.fresh(notes, apart), 0);
            }
        }
    }

    private static void promise19MoreApartThanNotes() {
        WhalePost x = Check.posted("post notes 4 errors 0 drift 0 slip 0;island a aa;island b aaa;island c aaaa");
        Check.granted(x, "fresh(2, 3)", x.fresh(2, 3), -2);
        Check.granted(x, "fresh(3, 4)", x.fresh(3, 4), -2);
        Check.granted(x, "fresh(4, 5)", x.fresh(4, 5), -2);
    }

    private static void promise19AllSongsAreTaken() {
        WhalePost x = Check.posted(Check.HEAD + "island a aa;island b ab;island c ba;island d bb");
        Check.granted(x, "fresh(2, 1)", x.fresh(2, 1), -2);
        WhalePost last = Check.posted(Check.HEAD + "island a aa;island b ab;island c ba");
        Check.granted(last, "fresh(2, 1), the last one is left", last.fresh(2, 1), 3);
    }

    private static void promise19TheFirstAndTheLastNumber() {
        WhalePost x = Check.posted("post notes 4 errors 0 drift 0 slip 0;island a aaaaa;island b bbbbb;island c ccccc");
        Check.granted(x, "fresh(5, 5)", x.fresh(5, 5), 1023);
        WhalePost y = Check.posted("post notes 4 errors 0 drift 0 slip 0;island a bbbbb");
        Check.granted(y, "fresh(5, 5)", y.fresh(5, 5), 0);
    }

    private static void promise19TheFirstNoteCountsMost() {
        WhalePost x = Check.posted("post notes 3 errors 0 drift 0 slip 0;island a aa;island b ab;island c ac");
        // ba, and not ab or aa: three by digits of three notes.
        Check.granted(x, "fresh(2, 1)", x.fresh(2, 1), 3);
        WhalePost y = Check.posted("post notes 3 errors 0 drift 0 slip 0;island a aaa");
        Check.granted(y, "fresh(3, 1)", y.fresh(3, 1), 1);
        Check.granted(y, "fresh(3, 2)", y.fresh(3, 2), 4);
        Check.granted(y, "fresh(3, 3)", y.fresh(3, 3), 13);
    }

    private static void promise19SevenIslands() {
        WhalePost x = Check.posted(islands(0, "aaa", "aab", "aba", "abb", "baa", "bab", "bba"));
        Check.granted(x, "fresh(3, 1), the last is left", x.fresh(3, 1), 7);
        Check.granted(x, "fresh(3, 2)", x.fresh(3, 2), -2);
        Check.granted(x, "byTurns(3, 1)", x.byTurns(3, 1), 1);
    }

    private static void promise19FartherApartIsFine() {
        WhalePost x = Check.posted(Check.HEAD + "island a abb;island b bab;island c bbb");
        // aaa is two, two and three apart.
        Check.granted(x, "fresh(3, 1)", x.fresh(3, 1), 0);
        Check.granted(x, "fresh(3, 2)", x.fresh(3, 2), 0);
        Check.granted(x, "fresh(3, 3)", x.fresh(3, 3), -2);
    }

    private static void promise19FromTheSongsNow() {
        WhalePost x = Check.posted("post notes 2 errors 0 drift 3 slip 0;island a aa");
        x.years(2);
        Check.granted(x, "fresh(2, 2)", x.fresh(2, 2), 3);
        x.years(1);
        Check.granted(x, "fresh(2, 2) in year 3", x.fresh(2, 2), 0);
    }

    // ---- promise 20: byTurns

    private static void promise20NotesBelowAndAbove() {
        WhalePost x = Check.posted(Check.WORLD);
        for (int notes : new int[] {1, 0, -1, 6, LEAST, MOST}) {
            Check.refused(x, "byTurns(" + notes + ", 1)", x.byTurns(notes, 1), 2);
        }
        Check.granted(x, "byTurns(5, 1)", x.byTurns(5, 1), 243);
    }

    private static void promise20ApartBelowAndAbove() {
        WhalePost x = Check.posted(Check.WORLD);
        for (int apart : new int[] {0, -1, 6, LEAST, MOST}) {
            Check.refused(x, "byTurns(4, " + apart + ")", x.byTurns(4, apart), 2);
        }
        Check.granted(x, "byTurns(4, 5)", x.byTurns(4, 5), 1);
    }

    private static void promise20NoPostAheadOfTheNumbers() {
        WhalePost x = new WhalePost();
        Check.refused(x, "byTurns(2, 1)", x.byTurns(2, 1), 1);
        Check.refused(x, "byTurns(6, 6)", x.byTurns(6, 6), 1);
    }

    private static void promise20NoneIsZero() {
        WhalePost x = Check.posted(Check.HEAD + "island a aa;island b ab;island c ba;island d bb");
        Check.granted(x, "byTurns(2, 1)", x.byTurns(2, 1), 0);
        Check.granted(x, "byTurns(2, 2)", x.byTurns(2, 2), 0);
    }

    private static void promise20AllThatAreLeft() {
        WhalePost x = Check.posted("post notes 4 errors 0 drift 0 slip 0;island a aaaaa;island b ddddd");
        Check.granted(x, "byTurns(5, 1)", x.byTurns(5, 1), 1022);
        Check.granted(x, "byTurns(4, 1)", x.byTurns(4, 1), 256);
        Check.granted(x, "byTurns(3, 1)", x.byTurns(3, 1), 64);
        Check.granted(x, "byTurns(2, 1)", x.byTurns(2, 1), 16);
    }

    private static void promise20AllNotesApart() {
        for (int notes = 2; notes <= 4; notes++) {
            WhalePost x = Check.posted("post notes " + notes + " errors 0 drift 0 slip 0;island a aaaaaa");
            for (int length = 2; length <= 5; length++) {
                Check.granted(x, "byTurns(" + length + ", " + length + ")", x.byTurns(length, length), notes);
            }
        }
    }

    private static void promise20EachTakenOneCounts() {
        WhalePost x = Check.posted(Check.HEAD + "island a aaaaaa");
        // Those of an even number of b.
        Check.granted(x, "byTurns(2, 2)", x.byTurns(2, 2), 2);
        Check.granted(x, "byTurns(3, 2)", x.byTurns(3, 2), 4);
        Check.granted(x, "byTurns(4, 2)", x.byTurns(4, 2), 8);
        Check.granted(x, "byTurns(5, 2)", x.byTurns(5, 2), 16);
        Check.granted(x, "byTurns(5, 3)", x.byTurns(5, 3), 4);
        Check.granted(x, "byTurns(5, 4)", x.byTurns(5, 4), 2);
    }

    private static void promise20FromTheSongsNow() {
        WhalePost x = Check.posted("post notes 3 errors 0 drift 1 slip 0;island a aa;island b bc");
        // Two apart from aa and bc: cb. A year later from cc and ab: ba.
        Check.granted(x, "byTurns(2, 2)", x.byTurns(2, 2), 1);
        Check.granted(x, "fresh(2, 2)", x.fresh(2, 2), 7);
        x.years(1);
        Check.granted(x, "byTurns(2, 2) in year 1", x.byTurns(2, 2), 1);
        Check.granted(x, "fresh(2, 2) in year 1", x.fresh(2, 2), 3);
    }

    private static void promise20InAnotherYearThereMayBeFewer() {
        WhalePost x = Check.posted("post notes 2 errors 0 drift 4 slip 0;island a aaa");
        // abb, bab and bba; from year 4 on aaa alone, as the song is bbb then.
        x.years(3);
        Check.granted(x, "byTurns(3, 2) in year 3", x.byTurns(3, 2), 3);
        x.years(1);
        Check.granted(x, "byTurns(3, 2) in year 4", x.byTurns(3, 2), 1);
        x.years(4);
        Check.granted(x, "byTurns(3, 2) in year 8, round", x.byTurns(3, 2), 3);
    }

    private static void promise20NothingIsTakenForGood() {
        WhalePost x = Check.posted("post notes 4 errors 0 drift 0 slip 0;island a ab");
        Check.granted(x, "byTurns(5, 1)", x.byTurns(5, 1), 1024);
        Check.granted(x, "byTurns(5, 1) again", x.byTurns(5, 1), 1024);
        Check.granted(x, "fresh(5, 1)", x.fresh(5, 1), 0);
        Check.due("size(4)", x.size(4), 1);
    }

    // ---- promises 21 and 22: near, asNear

    private static void promise21BoxBelowAndAbove() {
        WhalePost x = Check.posted(Check.WORLD);
        for (int b : new int[] {-1, 3, LEAST, MOST}) {
            Check.refused(x, "near(" + b + ")", x.near(b), 1);
        }
    }

    private static void promise21FromNoneToAllNotes() {
        WhalePost x = Check.posted("post notes 2 errors 0 drift 0 slip 0;island a aaaaaa;box p from a to a weighs 1 day 0");
        Check.granted(x, "near(0)", x.near(0), 0);
        for (int k = 0; k < 6; k++) {
            x.tune(0, k, 1);
            Check.granted(x, "near(0)", x.near(0), k + 1);
        }
    }

    private static void promise21MoreThanErrorsAreToldTheSame() {
        WhalePost x = Check.posted("post notes 2 errors 1 drift 0 slip 0;island a aaa;island b bb;box p from a to a weighs 1 day 0");
        x.tune(0, 0, 1);
        x.tune(0, 1, 1);
        Check.granted(x, "near(0)", x.near(0), 2);
        Check.granted(x, "heard(0)", x.heard(0), -2);
    }

    private static void promise21OtherLengthsDoNotCount() {
        WhalePost x = Check.posted("post notes 2 errors 1 drift 0 slip 0;island a aa;island b bbb;box p from a to a weighs 1 day 0");
        x.tune(0, 0, 1);
        x.tune(0, 1, 1);
        Check.granted(x, "near(0)", x.near(0), 2);
        Check.granted(x, "asNear(0)", x.asNear(0), 1);
    }

    private static void promise21FromTheSongsNow() {
        WhalePost x = Check.posted("post notes 4 errors 0 drift 7 slip 0;island a abc;box p from a to a weighs 1 day 0");
        x.years(6);
        Check.granted(x, "near(0) in year 6", x.near(0), 0);
        x.years(1);
        Check.granted(x, "near(0) in year 7", x.near(0), 3);
        x.years(21);
        Check.granted(x, "near(0) in year 28, round", x.near(0), 0);
    }

    private static void promise22BoxBelowAndAbove() {
        WhalePost x = Check.posted(Check.WORLD);
        for (int b : new int[] {-1, 3, LEAST, MOST}) {
            Check.refused(x, "asNear(" + b + ")", x.asNear(b), 1);
        }
    }

    private static void promise22OneAlone() {
        WhalePost x = Check.posted(Check.HEAD + "island a ab;box p from a to a weighs 1 day 0");
        Check.granted(x, "asNear(0)", x.asNear(0), 1);
    }

    private static void promise22AllSeven() {
        WhalePost x = Check.posted("post notes 4 errors 0 drift 0 slip 0;island a aab;island b aac;island c aad;island d aba;island e aca;island f ada;"
            + "island g baa;box p from a to a weighs 1 day 0");
        Check.granted(x, "asNear(0)", x.asNear(0), 1);
        x.tune(0, 2, 0);
        Check.granted(x, "near(0) as aaa", x.near(0), 1);
        Check.granted(x, "asNear(0) as aaa", x.asNear(0), 7);
    }

    private static void promise22TheNearestAlone() {
        WhalePost x = Check.posted(Check.HEAD + "island a aab;island b aba;island c bbb;box p from a to c weighs 1 day 0");
        Check.granted(x, "asNear(0), two farther ones", x.asNear(0), 1);
        x.tune(0, 0, 0);
        Check.granted(x, "asNear(0) as abb", x.asNear(0), 3);
    }

    private static void promise22ToTheSongsNow() {
        WhalePost x = Check.posted("post notes 2 errors 0 drift 6 slip 0;island a aaa;island b aab;island c aba;box p from a to a weighs 1 day 0");
        x.years(5);
        Check.granted(x, "asNear(0) in year 5", x.asNear(0), 1);
        x.years(1);
        // bbb, bba and bab: two of them are two notes from aaa.
        Check.granted(x, "asNear(0) in year 6", x.asNear(0), 2);
        Check.granted(x, "near(0) in year 6", x.near(0), 2);
        x.years(6);
        Check.granted(x, "asNear(0) in year 12, round", x.asNear(0), 1);
    }

    private static void promise22MoreThanErrorsAreToldTheSame() {
        WhalePost x = Check.posted(Check.HEAD + "island a aaa;island b aab;box p from a to a weighs 1 day 0");
        x.tune(0, 0, 1);
        x.tune(0, 1, 1);
        Check.granted(x, "asNear(0) as bba", x.asNear(0), 1);
        Check.granted(x, "near(0) as bba", x.near(0), 2);
    }

    // ---- promise 23: heardIn

    private static void promise23BoxBelowAndAbove() {
        WhalePost x = Check.posted(Check.WORLD);
        for (int b : new int[] {-1, 3, LEAST, MOST}) {
            Check.refused(x, "heardIn(" + b + ", 0)", x.heardIn(b, 0), 1);
        }
    }

    private static void promise23YearsBelowAndAbove() {
        WhalePost x = Check.posted(Check.WORLD);
        for (int n : new int[] {-1, 100, LEAST, MOST}) {
            Check.refused(x, "heardIn(0, " + n + ")", x.heardIn(0, n), 2);
        }
        Check.granted(x, "heardIn(0, 0)", x.heardIn(0, 0), 1);
        Check.granted(x, "heardIn(0, 99)", x.heardIn(0, 99), 1);
    }

    private static void promise23NoneSuchAheadOfTheNumber() {
        WhalePost x = Check.posted(Check.WORLD);
        Check.refused(x, "heardIn(3, 100)", x.heardIn(3, 100), 1);
        Check.refused(x, "heardIn(-1, -1)", x.heardIn(-1, -1), 1);
    }

    private static void promise23OneYearShortOfTheDrift() {
        WhalePost x = Check.posted(Check.WORLD);
        Check.granted(x, "heardIn(0, 9)", x.heardIn(0, 9), 1);
        Check.granted(x, "heardIn(0, 10)", x.heardIn(0, 10), 0);
        x.years(3);
        Check.granted(x, "heardIn(0, 6) from year 3", x.heardIn(0, 6), 1);
        Check.granted(x, "heardIn(0, 7) from year 3", x.heardIn(0, 7), 0);
    }

    private static void promise23Nobody() {
        WhalePost x = Check.posted("post notes 2 errors 0 drift 1 slip 0;island a aa;box p from a to a weighs 1 day 0");
        Check.granted(x, "heardIn(0, 1)", x.heardIn(0, 1), -2);
        Check.granted(x, "heardIn(0, 2), round", x.heardIn(0, 2), 0);
        Check.granted(x, "heardIn(0, 99)", x.heardIn(0, 99), -2);
    }

    private static void promise23BeyondTheLastYear() {
        WhalePost x = Check.posted("post notes 2 errors 0 drift 1 slip 0;island a aa;box p from a to a weighs 1 day 0");
        for (int k = 0; k < 101; k++) {
            x.years(99);
        }
        Check.granted(x, "heardIn(0, 98) in year 9,999", x.heardIn(0, 98), -2);
        Check.granted(x, "heardIn(0, 99) in year 9,999", x.heardIn(0, 99), 0);
    }

    private static void promise23TheYearStays() {
        WhalePost x = Check.posted(Check.WORLD);
        x.heardIn(0, 50);
        Check.due("size(9)", x.size(9), 0);
        Check.granted(x, "heard(0)", x.heard(0), 1);
    }

    private static void promise23TheSongAsItIsTuned() {
        WhalePost x = Check.posted(Check.HEAD.replace("drift 0", "drift 1") + "island a ab;island b ba;box p from a to b weighs 1 day 0");
        x.tune(0, 0, 0);
        x.tune(0, 1, 1);
        Check.granted(x, "heardIn(0, 0)", x.heardIn(0, 0), 0);
        Check.granted(x, "heardIn(0, 1)", x.heardIn(0, 1), 1);
    }

    // ---- promise 24: strange

    private static void promise24IslandBelowAndAbove() {
        WhalePost x = Check.posted(Check.WORLD);
        for (int i : new int[] {-1, 4, LEAST, MOST}) {
            Check.refused(x, "strange(" + i + ")", x.strange(i), 1);
        }
    }

    private static void promise24NeverWithoutDrift() {
        WhalePost x = Check.posted(Check.HEAD + "island a ab;island b ba");
        Check.granted(x, "strange(0)", x.strange(0), -2);
        x.years(99);
        Check.granted(x, "strange(1)", x.strange(1), -2);
    }

    private static void promise24NeverIfErrorsBearIt() {
        WhalePost x = Check.posted("post notes 2 errors 3 drift 1 slip 0;island a aba");
        Check.granted(x, "strange(0)", x.strange(0), -2);
        WhalePost y = Check.posted("post notes 2 errors 3 drift 1 slip 0;island a abab");
        Check.granted(y, "strange(0), one note more", y.strange(0), 1);
    }

    private static void promise24TheDriftItself() {
        for (int drift : new int[] {1, 2, 49, 50}) {
            WhalePost x = Check.posted("post notes 2 errors 0 drift " + drift + " slip 0;island a ab");
            Check.granted(x, "strange(0) by " + drift, x.strange(0), drift);
        }
    }

    private static void promise24NowAlready() {
        WhalePost x = Check.posted("post notes 2 errors 0 drift 5 slip 0;island a ab");
        x.years(4);
        Check.granted(x, "strange(0) in year 4", x.strange(0), 1);
        x.years(1);
        Check.granted(x, "strange(0) in year 5", x.strange(0), 0);
        x.years(4);
        Check.granted(x, "strange(0) in year 9", x.strange(0), 0);
        x.years(1);
        Check.granted(x, "strange(0) in year 10, round", x.strange(0), 5);
    }

    private static void promise24HeardByAnotherIsStrange() {
        WhalePost x = Check.posted("post notes 2 errors 2 drift 3 slip 0;island a ab;island b ba");
        Check.granted(x, "strange(0)", x.strange(0), 3);
    }

    private static void promise24AsToldAndNotAsTuned() {
        WhalePost x = Check.posted("post notes 2 errors 0 drift 9 slip 0;island a ab;box p from a to a weighs 1 day 0");
        x.tune(0, 0, 1);
        Check.granted(x, "strange(0)", x.strange(0), 9);
    }

    private static void promise24RoundAgain() {
        WhalePost x = Check.posted("post notes 2 errors 0 drift 50 slip 0;island a ab");
        x.years(99);
        Check.granted(x, "strange(0) in year 99", x.strange(0), 0);
        x.years(1);
        Check.granted(x, "strange(0) in year 100", x.strange(0), 50);
    }

    private static void promise24ATieIsStrange() {
        // From year 50 on both are two notes from ab, which errors would bear.
        WhalePost x = Check.posted("post notes 4 errors 3 drift 50 slip 0;island a ab;island b cd");
        Check.granted(x, "strange(0)", x.strange(0), 50);
    }

    // ---- what the tests share

    private static void bear(int want, String... songs) {
        WhalePost x = Check.posted(islands(0, songs));
        Check.granted(x, "bear()", x.bear(), want);
    }

    private static void mixed(int want, int errors, String... songs) {
        WhalePost x = Check.posted(islands(errors, songs));
        Check.granted(x, "mixed()", x.mixed(), want);
    }

    private static String islands(int errors, String... songs) {
        StringBuilder text = new StringBuilder("post notes 2 errors " + errors + " drift 0 slip 0");
        for (int i = 0; i < songs.length; i++) {
            text.append(";island i").append((char) ('a' + i)).append(' ').append(songs[i]);
        }
        return text.toString();
    }
}
