import java.util.ArrayList;
import java.util.Arrays;
import java.util.List;
import java.util.Map;
import java.util.Random;
import java.util.TreeMap;
import java.util.regex.Matcher;
import java.util.regex.Pattern;

/**
 * Random texts of all sorts, some with a byte changed, read a second time in another way: all tokens first, then all
 * lines, then all FAULTS sorted by place. Promises 4, 5, 6, 9, 19, 21.
 */
public final class SlowTextTest {
    private static final Pattern TOKEN = Pattern.compile("([a-z]+)|([0-9]+)|(;)|([ \n]+)|(.)", Pattern.DOTALL);

    /** Of each sort's words: the least and the greatest of each NUMBER. */
    private static final List<Map<String, int[]>> LINES = List.of(
        Map.of("wide", new int[] {2, 30}, "should", new int[] {0, 7, 0, 7}, "thought", new int[] {0, 7, 0, 9},
            "weight", new int[] {0, 7, 0, 99}, "seller", new int[] {0, 30, 0, 99}, "buyer", new int[] {0, 30, 0, 99},
            "preacher", new int[] {0, 30, 0, 99}, "fog", new int[] {0, 99, 0, 99}, "snow", new int[] {0, 99, 0, 99}),
        Map.of("whisper", new int[] {0, 5, 0, 7}, "say", new int[] {0, 5, 0, 7}, "shout", new int[] {0, 5, 0, 7},
            "walk", new int[] {0, 5, 0, 30}, "wait", new int[] {1, 60}),
        Map.of("gave", new int[] {0, 7, 0, 7}, "lies", new int[] {0, 9}),
        Map.of("heard", new int[] {0, 30, 0, 99, 0, 7}, "not", new int[] {0, 30, 0, 99, 0, 7}));
    private static final List<String> KINDS = List.of("seller", "buyer", "preacher");
    private static final List<String> SKIES = List.of("fog", "snow");
    private static final List<String> ACTS = List.of("whisper", "say", "shout", "walk", "wait");

    private static final int[] SEEN = new int[5];

    private final Random random;
    private final int sort;
    private final String text;
    /** Words and NUMBERS of each line that is told, and its place. */
    private final List<String[]> lines = new ArrayList<>();
    private final List<int[]> places = new ArrayList<>();
    private int broken = -1;

    public static void main(String[] args) {
        for (int seed = 0; seed < 12000; seed++) {
            SlowTextTest test = new SlowTextTest(seed);
            test.readLines();
            test.compare();
        }
        for (int fault = 0; fault < 5; fault++) {
            Check.due("texts with FAULT " + fault + " are many: " + SEEN[fault], SEEN[fault] > 100, true);
        }
        Check.end("SlowTextTest");
    }

    private SlowTextTest(int seed) {
        random = new Random(seed);
        sort = seed % 4;
        StringBuilder told = new StringBuilder();
        String[] words = LINES.get(sort).keySet().stream().sorted().toArray(String[]::new);
        int most = random.nextInt(random.nextInt(3) == 0 ? 46 : 12);
        for (int k = 0; k < most && told.length() < 560; k++) {
            told.append(line(words[random.nextInt(words.length)]));
        }
        if (random.nextInt(3) == 0) {
            change(told);
        }
        told.setLength(Math.min(600, told.length()));
        text = told.toString();
    }

    private String line(String word) {
        StringBuilder line = new StringBuilder(blanks(true) + word);
        int[] edges = LINES.get(sort).get(word);
        int before = 0;
        for (int k = 0; k < edges.length; k += 2) {
            boolean isUpTo = SKIES.contains(word) && k == 2 && random.nextInt(12) > 0;
            int least = isUpTo ? before : edges[k];
            int number = least + random.nextInt(edges[k + 1] - least + 1);
            number = random.nextInt(40) == 0 ? random.nextInt(100) : number;
            number = KINDS.contains(word) && k == 0 && random.nextInt(8) > 0 ? number % 13 : number;
            before = Math.min(99, number);
            line.append(blanks(k > 0 || random.nextInt(9) > 0)).append(number < 10 && random.nextInt(9) == 0 ? "0" : "");
            line.append(number);
        }
        return line.append(random.nextInt(9) == 0 ? " ;" : ";").toString();
    }

    private String blanks(boolean some) {
        return !some ? "" : random.nextInt(9) > 0 ? " " : random.nextBoolean() ? "\n" : "  \n";
    }

    private void change(StringBuilder told) {
        String signs = "az09;; \n\t,AZ`{/:" + (char) 0 + (char) 255 + (char) 138;
        int at = random.nextInt(told.length() + 1);
        String sign = "" + signs.charAt(random.nextInt(signs.length()));
        switch (random.nextInt(4)) {
            case 0 -> told.insert(at, sign);
            case 1 -> told.replace(at, Math.min(told.length(), at + 1), sign);
            case 2 -> told.delete(at, Math.min(told.length(), at + 1));
            default -> told.setLength(at);
        }
    }

    private void readLines() {
        List<String> tokens = new ArrayList<>();
        List<Integer> starts = new ArrayList<>();
        Matcher matcher = TOKEN.matcher(text);
        while (matcher.find()) {
            if (matcher.group(4) == null) {
                tokens.add(matcher.group());
                starts.add(matcher.start());
            }
        }
        starts.add(text.length());
        int at = 0;
        while (at < tokens.size() && broken < 0) {
            int[] edges = LINES.get(sort).get(tokens.get(at));
            int length = edges == null ? 1 : 2 + edges.length / 2;
            for (int k = 0; k < length && broken < 0; k++) {
                String token = at + k < tokens.size() ? tokens.get(at + k) : "";
                boolean fits = k == 0 ? edges != null : k < length - 1 ? token.matches("[0-9]{1,2}") : token.equals(";");
                broken = fits ? -1 : starts.get(at + k);
            }
            if (broken < 0) {
                lines.add(tokens.subList(at, at + length - 1).toArray(new String[0]));
                places.add(starts.subList(at, at + length).stream().mapToInt(s -> s).toArray());
            }
            at += length;
        }
    }

    private static int number(String[] line, int k) {
        return Integer.parseInt(line[k]);
    }

    /** PEOPLE 0, FOGS and SNOWS 1, DEEDS 2, PAIRS 3, FACTS 4; -1 for what strikes. */
    private int rowOf(String word) {
        return KINDS.contains(word) ? 0 : SKIES.contains(word) ? 1 : sort == 1 ? 2 : word.equals("gave") ? 3 : sort == 3 ? 4 : -1;
    }

    /** All FAULTS but 1, by place. */
    private TreeMap<Integer, Integer> faults() {
        TreeMap<Integer, Integer> faults = new TreeMap<>();
        int[] told = new int[5];
        int[] most = {6, 4, 40, 10, 8};
        for (int n = 0; n < lines.size(); n++) {
            String[] line = lines.get(n);
            int row = rowOf(line[0]);
            if (row >= 0 && ++told[row] > most[row]) {
                faults.put(places.get(n)[0], 3);
            }
            int[] edges = LINES.get(sort).get(line[0]);
            for (int k = 1; k < line.length; k++) {
                boolean ahead = SKIES.contains(line[0]) && k == 2 && number(line, 2) < number(line, 1);
                if (number(line, k) < edges[2 * k - 2] || number(line, k) > edges[2 * k - 1] || ahead) {
                    faults.put(places.get(n)[k], 2);
                }
            }
        }
        return faults;
    }

    private int wide() {
        return lines.stream().filter(l -> l[0].equals("wide")).mapToInt(l -> number(l, 1)).reduce(12, (a, b) -> b);
    }

    private void compare() {
        TwoEchoes x = new TwoEchoes();
        int got = Check.tell(x, sort, text);
        TreeMap<Integer, Integer> faults = faults();
        int fault = 0;
        int place = -1;
        if (broken >= 0) {
            fault = 1;
            place = broken;
        } else if (!faults.isEmpty()) {
            fault = faults.firstEntry().getValue();
            place = faults.firstKey();
        } else if (lines.stream().anyMatch(l -> KINDS.contains(l[0]) && number(l, 1) > wide())) {
            fault = 4;
            place = text.length();
        }
        SEEN[fault]++;
        Check.due("text of " + text, got, fault == 0 ? 0 : -1);
        Check.due("FAULT of " + text, x.fault(0), fault);
        Check.due("its place in " + text, x.fault(1), place);
        if (fault == 0) {
            compareTold(x);
        }
    }

    private void compareTold(TwoEchoes x) {
        if (sort == 0) {
            int[] due = valley();
            for (int what = 0; what < due.length; what++) {
                Check.due("valley(0, " + what + ") of " + text, x.valley(0, what), due[what]);
            }
            return;
        }
        List<String[]> rows = lines.stream().filter(l -> !l[0].equals("lies")).toList();
        int lies = lines.stream().filter(l -> l[0].equals("lies")).mapToInt(l -> number(l, 1)).reduce(0, (a, b) -> b);
        int many = sort == 1 ? x.deed(0, -1, 0) : sort == 2 ? x.lesson(0, 1) : x.fact(0, -1, 0);
        Check.due("how many of " + text, many, rows.size());
        Check.due("LIES of " + text, sort == 2 ? x.lesson(0, 0) : 0, lies);
        for (int k = 0; k < rows.size(); k++) {
            String[] row = rows.get(k);
            for (int n = 1; n < row.length; n++) {
                int told = sort == 1 ? x.deed(0, k, n) : sort == 2 ? x.lesson(0, 10 * n + k) : x.fact(0, k, n);
                Check.due("number " + n + " of " + k + " of " + text, told, number(row, n));
            }
            int first = sort == 1 ? x.deed(0, k, 0) : sort == 3 ? x.fact(0, k, 0) : 0;
            int due = sort == 1 ? ACTS.indexOf(row[0]) : sort == 3 && row[0].equals("heard") ? 1 : 0;
            Check.due("the word of " + k + " of " + text, first, due);
        }
    }

    private int[] valley() {
        int[] due = new int[100];
        Arrays.fill(due, -1);
        due[0] = wide();
        due[1] = 0;
        due[2] = 0;
        for (int word = 0; word < 8; word++) {
            due[10 + word] = word;
            due[20 + word] = 0;
            due[30 + word] = 1;
        }
        for (String[] line : lines) {
            int column = List.of("should", "thought", "weight").indexOf(line[0]);
            if (column >= 0) {
                due[10 + 10 * column + number(line, 1)] = number(line, 2);
            }
            boolean isSky = SKIES.contains(line[0]);
            if (isSky || KINDS.contains(line[0])) {
                int at = isSky ? 70 + due[2]++ : 40 + due[1]++;
                due[at] = isSky ? SKIES.indexOf(line[0]) : KINDS.indexOf(line[0]);
                due[at + 10] = number(line, 1);
                due[at + 20] = number(line, 2);
            }
        }
        return due;
    }
}
