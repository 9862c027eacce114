import java.util.ArrayList;
import java.util.HashMap;
import java.util.HashSet;
import java.util.List;
import java.util.Map;
import java.util.Set;
import java.util.regex.Matcher;
import java.util.regex.Pattern;

/** Judges a text by forms of lines that are written out, to compare with what the class says of it. */
final class Judge {
    private static final Pattern TOKEN = Pattern.compile("[a-z]+|[0-9]+|[^ ]", Pattern.DOTALL);
    private static final String RESERVED = "post|island|way|whale|box|spout";

    /** A form's parts: a WORD as it stands, NEW sort, OLD sort, END2 (a way's second island), SONG, KIND, bounds lo-hi, LATER. */
    private static final Map<String, String> FORMS = Map.of(
        "post", "notes 2-4 errors 0-3 drift 0-50 slip 0-100",
        "island", "NEW:island SONG",
        "way", "OLD:island END2 days 1-99 open 1-15",
        "whale", "NEW:whale KIND at OLD:island keeps 0-99 lost 0-99",
        "box", "NEW:box from OLD:island to OLD:island weighs 1-99 day 0-9999",
        "spout", "OLD:whale OLD:island day LATER");
    private static final Map<String, Integer> ROOM = Map.of("island", 7, "way", 12, "whale", 5, "box", 8, "spout", 8);

    int fault = 0;
    int place = -1;
    final Map<String, Integer> count = new HashMap<>();

    private final List<String> tokens = new ArrayList<>();
    private final List<Integer> places = new ArrayList<>();
    private final Map<String, String> sortOf = new HashMap<>();
    private final Set<String> songs = new HashSet<>();
    private final Set<String> pairs = new HashSet<>();
    private final Map<String, Integer> lastSpout = new HashMap<>();
    private int notes = 0;
    private final List<String> line = new ArrayList<>();

    Judge(String text) {
        Matcher token = TOKEN.matcher(text);
        while (token.find()) {
            tokens.add(token.group());
            places.add(token.start());
        }
        tokens.add("END");
        places.add(text.length());
        int at = 0;
        while (fault == 0) {
            at = judgeLine(at);
            if (fault == 0 && tokens.get(at).equals("END")) {
                faultIf(!count.containsKey("island"), 6, at);
                return;
            }
            faultIf(fault == 0 && !tokens.get(at).equals(";"), 1, at);
            at++;
        }
    }

    private void faultIf(boolean bad, int number, int at) {
        if (bad && fault == 0) {
            fault = number;
            place = places.get(at);
        }
    }

    private int judgeLine(int start) {
        String sort = tokens.get(start);
        line.clear();
        faultIf(!sort.matches(RESERVED), 1, start);
        faultIf(sort.equals("post") && count.containsKey("post"), 3, start);
        faultIf(ROOM.containsKey(sort) && count.getOrDefault(sort, 0) >= ROOM.get(sort), 5, start);
        faultIf(!sort.equals("post") && !count.containsKey("post"), 6, start);
        int at = start + 1;
        for (String part : FORMS.getOrDefault(sort, "").split(" ")) {
            if (fault != 0 || part.isEmpty()) {
                break;
            }
            judgePart(part, tokens.get(at), at);
            line.add(tokens.get(at));
            at++;
        }
        if (fault == 0) {
            count.merge(sort, 1, Integer::sum);
        }
        return at;
    }

    private void judgePart(String part, String token, int at) {
        String sort = part.substring(part.indexOf(':') + 1);
        if (part.startsWith("NEW:")) {
            faultIf(!isName(token), 1, at);
            faultIf(sortOf.containsKey(token), 3, at);
            sortOf.putIfAbsent(token, sort);
        } else if (part.startsWith("OLD:")) {
            faultIf(!isName(token), 1, at);
            faultIf(!sort.equals(sortOf.get(token)), 2, at);
        } else if (part.equals("END2")) {
            faultIf(!isName(token), 1, at);
            faultIf(!"island".equals(sortOf.get(token)), 2, at);
            faultIf(token.equals(line.get(0)) || !pairs.add(token + " " + line.get(0)) || !pairs.add(line.get(0) + " " + token), 3, at);
        } else if (part.equals("SONG")) {
            faultIf(!token.matches("[a-z]{1,8}"), 1, at);
            faultIf(!songs.add(token), 3, at);
            faultIf(!token.matches("[a-" + (char) ('a' + notes - 1) + "]{2,6}"), 7, at);
        } else if (part.equals("KIND")) {
            faultIf(!token.matches("calf|cow|bull|old"), 1, at);
        } else if (part.equals("LATER")) {
            judgeWhole(lastSpout.getOrDefault(line.get(0), -1) + 1, 9999, token, at);
            lastSpout.put(line.get(0), fault == 0 ? Integer.parseInt(token) : 0);
        } else if (part.contains("-")) {
            String[] bounds = part.split("-");
            judgeWhole(Integer.parseInt(bounds[0]), Integer.parseInt(bounds[1]), token, at);
            notes = notes == 0 && fault == 0 ? Integer.parseInt(token) : notes;
        } else {
            faultIf(!token.equals(part), 1, at);
        }
    }

    private void judgeWhole(int least, int most, String token, int at) {
        boolean whole = token.matches("[0-9]{1,4}");
        faultIf(!whole, 1, at);
        faultIf(whole && (Integer.parseInt(token) < least || Integer.parseInt(token) > most), 4, at);
    }

    private static boolean isName(String token) {
        return token.matches("[a-z]{1,8}") && !token.matches(RESERVED);
    }
}
