import java.io.IOException;
import java.nio.file.Files;
import java.nio.file.Path;
import java.util.BitSet;
import java.util.LinkedHashMap;
import java.util.Map;
import java.util.regex.Matcher;
import java.util.regex.Pattern;

/**
 * The document's sentences, each with a test of its own. A test names its sentence in the document's words, so that a
 * sentence that was changed there, or one that no test names, is found out.
 */
final class Edge {
    static final int NONE = TwoEchoes.NONE;
    static final int LOW = Integer.MIN_VALUE;
    static final int HIGH = Integer.MAX_VALUE;

    private static final Path DOCUMENT = Path.of("../shared/DOC.md");
    private static final Map<String, String> SECTIONS = new LinkedHashMap<>();
    private static final Map<String, BitSet> NAMED = new LinkedHashMap<>();
    private static int tests = 0;

    /** One call as a function of the one argument that is looked at. */
    interface Call {
        long of(int argument);
    }

    private Edge() {
    }

    static void test(String where, String sentence, Runnable test) {
        Check.about(where + ", \"" + sentence + "\": ");
        name(where, sentence);
        int before = Check.looked();
        try {
            test.run();
        } catch (RuntimeException e) {
            Check.due("the test threw " + e, 1, 0);
        }
        Check.due("answers are looked at", Check.looked() > before, true);
        Check.about("");
        tests++;
    }

    static int howMany() {
        return tests;
    }

    /** A new object with one text of a sort, which has no FAULT. */
    static TwoEchoes reads(int sort, String text) {
        TwoEchoes x = new TwoEchoes();
        Check.due("text of " + text, Check.tell(x, sort, text), 0);
        Check.due("FAULT of " + text, x.fault(0), 0);
        Check.due("its place in " + text, x.fault(1), NONE);
        Check.due("count behind " + text, x.count(sort), 1);
        return x;
    }

    static void fails(int sort, String text, int fault, int place) {
        TwoEchoes x = new TwoEchoes();
        Check.due("text of " + text, Check.tell(x, sort, text), NONE);
        Check.due("FAULT of " + text, x.fault(0), fault);
        Check.due("its place in " + text, x.fault(1), place);
        Check.due("count behind " + text, x.count(sort), 0);
    }

    /** Each of some arguments gets the same answer. */
    static void same(String call, Call asked, long due, int... arguments) {
        for (int argument : arguments) {
            Check.due(call + " of " + argument, asked.of(argument), due);
        }
    }

    /** Arguments and answers by turns. */
    static void each(String call, Call asked, int... argumentsAndDue) {
        for (int k = 0; k + 1 < argumentsAndDue.length; k += 2) {
            Check.due(call + " of " + argumentsAndDue[k], asked.of(argumentsAndDue[k]), argumentsAndDue[k + 1]);
        }
    }

    static void readDocument() {
        if (!Files.exists(DOCUMENT)) {
            System.out.println("no " + DOCUMENT + ": the sentences are not compared with it");
            return;
        }
        String where = "";
        for (String line : lines()) {
            where = section(line, where);
            if (!where.isEmpty() && !line.startsWith("```") && !line.startsWith("## ")) {
                SECTIONS.merge(where, line.strip(), (a, b) -> (a + " " + b).strip());
            }
        }
        Check.due("the document's sections: " + SECTIONS.keySet(), SECTIONS.size(), 1 + 6 + 1 + 36);
    }

    private static Iterable<String> lines() {
        try {
            return Files.readAllLines(DOCUMENT);
        } catch (IOException e) {
            throw new IllegalStateException(e);
        }
    }

    /** The section that a line belongs to: 'What it is', 'Terms 1' .. 6, 'Constants', 'Promise 1' .. 36. */
    private static String section(String line, String before) {
        Matcher promise = Pattern.compile("## (Promise \\d+): .*").matcher(line);
        Matcher term = Pattern.compile("(\\d)\\. .*").matcher(line);
        if (promise.matches()) {
            return promise.group(1);
        }
        if (term.matches()) {
            return "Terms " + term.group(1);
        }
        if (line.startsWith("The constants")) {
            return "Constants";
        }
        if (line.startsWith("An object is used")) {
            return "What it is";
        }
        return line.startsWith("## ") ? "" : before;
    }

    private static void name(String where, String sentence) {
        String text = SECTIONS.getOrDefault(where, SECTIONS.isEmpty() ? sentence : "");
        int at = text.indexOf(sentence);
        Check.due("the document has this sentence there", at >= 0, true);
        if (at >= 0) {
            NAMED.computeIfAbsent(where, w -> new BitSet()).set(at, at + sentence.length());
        }
    }

    /** A sentence, or a part of one between semicolons, of which no test names a word has no test. */
    static void everySentenceIsNamed() {
        for (Map.Entry<String, String> section : SECTIONS.entrySet()) {
            BitSet named = NAMED.getOrDefault(section.getKey(), new BitSet());
            Matcher part = Pattern.compile("\\S.*?[^\\s.][.;](?=\\s|$)|\\S.*$").matcher(section.getValue());
            while (part.find()) {
                int first = named.nextSetBit(part.start());
                boolean has = first >= 0 && first < part.end();
                Check.due(section.getKey() + ": a test of \"" + part.group() + "\"", has, true);
            }
        }
    }
}
