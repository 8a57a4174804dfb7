/** Promises 19 and 20: lesson, rules. */
public final class LessonTest {
    public static void main(String[] args) {
        asItIsTold();
        oneLie();
        sure();
        nothingFits();
        nothingTold();
        Check.end("LessonTest");
    }

    private static TwoEchoes lesson(String text) {
        TwoEchoes x = new TwoEchoes();
        Check.due("LESSON", Check.tell(x, 2, text), 0);
        return x;
    }

    private static void asItIsTold() {
        TwoEchoes x = lesson("lies 4;gave 0 3;gave 1 5;lies 1;gave 2 0;");
        int[][] due = {{0, 1}, {1, 3}, {10, 0}, {11, 1}, {12, 2}, {13, -1}, {19, -1}, {20, 3}, {21, 5}, {22, 0}, {23, -1},
            {2, -1}, {9, -1}, {-1, -1}, {30, -1}};
        for (int[] pair : due) {
            Check.due("lesson(0, " + pair[0] + ")", x.lesson(0, pair[0]), pair[1]);
        }
        Check.due("no LESSON", x.lesson(1, 0), -1);
        Check.due("no LESSON -1", x.lesson(-1, 0), -1);
        TwoEchoes ten = lesson("gave 0 1;".repeat(9) + "gave 6 7;");
        Check.due("the tenth, said", ten.lesson(0, 19), 6);
        Check.due("the tenth, came", ten.lesson(0, 29), 7);
    }

    private static void oneLie() {
        TwoEchoes x = lesson("gave 0 3;gave 1 5;gave 2 0;lies 1;");
        Check.due("FITS: 2 w + 3, 3 w + 2", x.rules(0, 0), 2);
        Check.due("LEAST", x.rules(0, 1), 1);
        Check.due("the RULE", x.rules(0, 2), 19);
        Check.due("CALL", x.rules(0, 3), 0);
        for (int word = 0; word < 8; word++) {
            Check.due("COMES of " + word, x.rules(0, 10 + word), word == 1 ? 5 : -1);
        }
        for (int what : new int[] {-1, 4, 9, 18, 20, 100}) {
            Check.due("rules(0, " + what + ")", x.rules(0, what), -2);
        }
        Check.due("no LESSON", x.rules(1, 0), -2);
        Check.due("no LESSON -1", x.rules(-1, 0), -2);
    }

    private static void sure() {
        TwoEchoes x = lesson("gave 0 3;gave 1 5;");
        Check.due("FITS", x.rules(0, 0), 1);
        Check.due("LEAST", x.rules(0, 1), 0);
        Check.due("the RULE", x.rules(0, 2), 19);
        Check.due("CALL", x.rules(0, 3), 0);
        for (int word = 0; word < 8; word++) {
            Check.due("COMES of " + word, x.rules(0, 10 + word), (2 * word + 3) % 8);
        }
        // b is 3, a is even or odd as may be: 4 a is 0 or 4
        TwoEchoes even = lesson("gave 0 3;gave 4 7;");
        Check.due("FITS", even.rules(0, 0), 4);
        Check.due("the RULE", even.rules(0, 2), 11);
        Check.due("COMES of 0", even.rules(0, 10), 3);
        Check.due("COMES of 4", even.rules(0, 14), 7);
        Check.due("CALL", even.rules(0, 3), 1);
    }

    private static void nothingFits() {
        TwoEchoes x = lesson("gave 0 3;gave 0 4;gave 1 1;");
        Check.due("FITS", x.rules(0, 0), 0);
        Check.due("LEAST", x.rules(0, 1), 1);
        Check.due("the RULE: 5 w + 4", x.rules(0, 2), 44);
        Check.due("CALL", x.rules(0, 3), -1);
        Check.due("COMES of 0", x.rules(0, 10), -1);
    }

    private static void nothingTold() {
        TwoEchoes x = lesson("");
        Check.due("FITS", x.rules(0, 0), 64);
        Check.due("LEAST", x.rules(0, 1), 0);
        Check.due("the RULE", x.rules(0, 2), 0);
        Check.due("CALL", x.rules(0, 3), 0);
        Check.due("COMES of 0", x.rules(0, 10), -1);
        TwoEchoes lies = lesson("gave 0 3;gave 0 4;lies 2;");
        Check.due("as many LIES as PAIRS", lies.rules(0, 0), 64);
    }
}
