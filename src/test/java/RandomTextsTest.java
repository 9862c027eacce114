import java.util.ArrayList;
import java.util.Arrays;
import java.util.List;
import java.util.Random;

/** Promises 3 to 5: texts that are broken by fixed seeds, against what support/Judge.java says of them. */
public final class RandomTextsTest {
    private static final int TEXTS = 30000;
    private static final String[] TOKENS = ("post island way whale box spout notes errors drift slip days open at keeps lost from to weighs day "
        + "calf cow bull old ia ib ic wa wb ba bb zz ab aab aaaaaa aaaaaaa aaaaaaaa aaaaaaaaa a d ; ; ; "
        + "0 1 2 3 4 5 7 8 15 16 50 51 99 100 101 9999 00 0002 00002 10000 A é # -").split(" ");
    private static final String[] LINES = {"post notes 2 errors 0 drift 0 slip 0", "island ia ab", "island NEW SONG", "island NEW SONG", "way ia ib days 1 open 1",
        "way ISLAND ISLAND days 9 open 9", "way ISLAND ISLAND days 9 open 9", "whale NEW old at ISLAND keeps 0 lost 0", "whale NEW cow at ISLAND keeps 9 lost 9",
        "box NEW from ISLAND to ISLAND weighs 1 day 0", "spout WHALE ISLAND day 5", "spout WHALE ISLAND day LATE", "spout WHALE ISLAND day LATE"};

    private final Random random;
    private int made = 0;

    private RandomTextsTest(int seed) {
        random = new Random(seed);
    }

    public static void main(String[] args) {
        int[] met = new int[8];
        for (int seed = 0; seed < TEXTS; seed++) {
            String text = new RandomTextsTest(seed).draw();
            if (text.length() <= 1000) {
                met[compare(seed, text)]++;
            }
        }
        System.out.println("texts by faults: " + Arrays.toString(met));
        for (int fault = 0; fault < met.length; fault++) {
            Check.due("texts with fault " + fault + " are enough", met[fault] >= 100, true);
        }
        Check.end();
    }

    private static int compare(int seed, String text) {
        Judge judge = new Judge(text);
        WhalePost x = new WhalePost();
        int answer = Check.tell(x, text);
        String of = " of text " + seed + " " + text;
        Check.due("post()" + of, answer, judge.fault == 0 ? judge.count.get("island") : -1);
        Check.due("trouble()" + of, x.trouble(), judge.fault == 0 ? 0 : 4);
        Check.due("fault()" + of, x.fault(), judge.fault);
        Check.due("where()" + of, x.where(), judge.place);
        Check.due("size(12)" + of, x.size(12), 0);
        String[] sorts = {"island", "way", "whale", "box", "spout"};
        for (int k = 0; k < sorts.length; k++) {
            Check.due("size(" + (4 + k) + ")" + of, x.size(4 + k), judge.fault == 0 ? judge.count.getOrDefault(sorts[k], 0) : 0);
        }
        return judge.fault;
    }

    private String draw() {
        List<String> tokens = new ArrayList<>(List.of(new Model(random).text().replace(";", " ; ").split(" ")));
        for (int more = random.nextInt(8); more > 0; more--) {
            addLine(tokens);
        }
        if (random.nextInt(25) == 0) {
            int head = tokens.indexOf(";");
            tokens = random.nextBoolean() ? tokens.subList(0, head) : tokens.subList(head + 1, tokens.size());
        }
        for (int more = random.nextInt(3); more > 0; more--) {
            breakOne(tokens);
        }
        StringBuilder text = new StringBuilder();
        for (String token : tokens) {
            int blanks = random.nextInt(40) == 0 ? random.nextInt(3) : token.equals(";") ? 0 : 1;
            text.append(" ".repeat(text.length() == 0 ? 0 : blanks)).append(token);
        }
        if (random.nextInt(8) == 0) {
            text.setLength(random.nextInt(text.length() + 1));
        }
        return text.toString();
    }

    private void addLine(List<String> tokens) {
        String line = LINES[random.nextInt(LINES.length)];
        for (String token : (random.nextInt(20) == 0 ? line : "; " + line).split(" ")) {
            switch (token) {
                case "NEW": tokens.add("n" + (char) ('a' + made++)); break;
                case "SONG": tokens.add(song()); break;
                case "ISLAND": tokens.add("i" + (char) ('a' + random.nextInt(5))); break;
                case "WHALE": tokens.add("w" + (char) ('a' + random.nextInt(3))); break;
                case "LATE": tokens.add("" + (1000 * made++ + random.nextInt(1000)) % 10000); break;
                default: tokens.add(token); break;
            }
        }
    }

    private String song() {
        StringBuilder song = new StringBuilder();
        for (int k = 2 + random.nextInt(5); k > 0; k--) {
            song.append((char) ('a' + random.nextInt(random.nextInt(8) == 0 ? 4 : 2)));
        }
        return song.toString();
    }

    private void breakOne(List<String> tokens) {
        if (tokens.isEmpty()) {
            return;
        }
        int at = random.nextInt(tokens.size());
        String other = random.nextBoolean() ? TOKENS[random.nextInt(TOKENS.length)] : tokens.get(random.nextInt(tokens.size()));
        switch (random.nextInt(4)) {
            case 0: tokens.remove(at); break;
            case 1: tokens.add(at, other); break;
            case 2: tokens.set(at, tokens.set(random.nextInt(tokens.size()), tokens.get(at))); break;
            default: tokens.set(at, other); break;
        }
    }
}
