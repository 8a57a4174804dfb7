/** What all tests share: telling texts, and comparing answers with those that are due. */
final class Check {
    static final int NONE = TwoEchoes.NONE;

    static final String VALLEY = "wide 10;should 1 2;should 2 1;should 3 1;thought 1 4;weight 0 5;weight 1 3;"
        + "seller 2 30;buyer 5 50;buyer 9 40;seller 7 45;preacher 0 0;fog 20 30;snow 40 50;";

    private static String topic = "";
    private static int wrong = 0;
    private static int calls = 0;

    private Check() {
    }

    /** What the answers below belong to; it is printed ahead of each wrong one. */
    static void about(String sentence) {
        topic = sentence;
    }

    /** How many answers have been looked at so far. */
    static int looked() {
        return calls;
    }

    static void due(String call, long got, long want) {
        calls++;
        if (got != want) {
            wrong++;
            if (wrong <= 50) {
                System.out.println(topic + call + " answered " + got + ", due is " + want);
            }
        }
    }

    static void due(String call, boolean got, boolean want) {
        due(call, got ? 1 : 0, want ? 1 : 0);
    }

    /** Feeds a text, with blanks behind it, and cuts these off. */
    static void feed(TwoEchoes x, String text) {
        int before = x.end(0);
        due("end(0) ahead of a text", before, 0);
        for (int at = 0; at < text.length(); at += 20) {
            int[] four = new int[5];
            for (int k = 0; k < 20; k++) {
                int sign = at + k < text.length() ? text.charAt(at + k) : ' ';
                four[k / 4] = four[k / 4] << 8 | sign & 255;
            }
            x.feed(four[0], four[1], four[2], four[3], four[4]);
        }
        due("end(" + text.length() + ")", x.end(text.length()), text.length());
    }

    static int tell(TwoEchoes x, int sort, String text) {
        feed(x, text);
        return x.text(sort, NONE);
    }

    /** A new object with one VALLEY. */
    static TwoEchoes valley(String text) {
        TwoEchoes x = new TwoEchoes();
        due("text of " + text, tell(x, 0, text), 0);
        return x;
    }

    static void end(String name) {
        System.out.println(name + ": " + calls + " answers looked at, " + wrong + " wrong");
        if (wrong != 0) {
            System.exit(1);
        }
    }
}
