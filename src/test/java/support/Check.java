/** What the tests share: texts told to an object, answers compared, and the exit code at the end. */
final class Check {
    /** The world of most tests: four islands, three ways, a whale of each kind, three boxes, two spouts. */
    static final String WORLD = "post notes 3 errors 1 drift 10 slip 50;"
        + "island ada aab;island bo cca;island cy bbb;island di ab;"
        + "way ada bo days 10 open 15;way bo cy days 20 open 2;way ada cy days 50 open 15;"
        + "whale cal calf at ada keeps 2 lost 10;whale cow cow at ada keeps 0 lost 20;"
        + "whale bul bull at bo keeps 5 lost 5;whale old old at cy keeps 1 lost 30;"
        + "box x from ada to bo weighs 2 day 5;box y from ada to cy weighs 9 day 0;"
        + "box z from bo to ada weighs 50 day 3;"
        + "spout cow bo day 15;spout old ada day 40";

    static final String HEAD = "post notes 2 errors 0 drift 0 slip 0;";

    private static int wrong = 0;
    private static String test = "";

    private Check() {
    }

    /** The test's name is printed ahead of what is wrong in it. */
    static void begin(String name) {
        test = name + ": ";
    }

    static void due(String call, long got, long want) {
        if (got != want) {
            wrong++;
            System.out.println(test + call + " answered " + got + ", due is " + want);
        }
    }

    static void thrown(Throwable thrown) {
        wrong++;
        System.out.println(test + "threw " + thrown);
    }

    static void due(String call, boolean got, boolean want) {
        due(call, got ? 1 : 0, want ? 1 : 0);
    }

    /** A call that is answered leaves no trouble behind. */
    static void granted(WhalePost x, String call, long got, long want) {
        due(call, got, want);
        due("trouble() behind " + call, x.trouble(), 0);
    }

    static void granted(WhalePost x, String call, boolean got) {
        granted(x, call, got ? 1 : 0, 1);
    }

    static void refused(WhalePost x, String call, long got, int why) {
        due(call, got, -1);
        due("trouble() behind " + call, x.trouble(), why);
    }

    static void refused(WhalePost x, String call, boolean got, int why) {
        due(call, got, false);
        due("trouble() behind " + call, x.trouble(), why);
    }

    static int tell(WhalePost x, String text) {
        feed(x, text);
        return x.post(text.length());
    }

    /** Blanks fill the last twenty bytes. */
    static int feed(WhalePost x, String text) {
        StringBuilder all = new StringBuilder(text);
        while (all.length() % 20 != 0) {
            all.append(' ');
        }
        int size = x.size(12);
        for (int k = 0; k < all.length(); k += 20) {
            size = x.feed(four(all, k), four(all, k + 4), four(all, k + 8), four(all, k + 12), four(all, k + 16));
        }
        return size;
    }

    private static int four(CharSequence text, int at) {
        int number = 0;
        for (int k = 0; k < 4; k++) {
            number = number << 8 | text.charAt(at + k) & 255;
        }
        return number;
    }

    static WhalePost posted(String text) {
        WhalePost x = new WhalePost();
        int islands = tell(x, text);
        if (islands < 1) {
            due("post() of " + text + ", fault " + x.fault() + " at " + x.where(), islands, 1);
        }
        return x;
    }

    static void end() {
        System.out.println(wrong == 0 ? "all answers are as due" : wrong + " answers are not as due");
        if (wrong != 0) {
            System.exit(1);
        }
    }
}
