/** Promises 6, 7, 8, 15 and 32: valley, heard, gives, late, weather. */
public final class ValleyTest {
    public static void main(String[] args) {
        asItIsAtFirst();
        asItIsTold();
        hearing();
        giving();
        lateness();
        weather();
        Check.end("ValleyTest");
    }

    private static void asItIsAtFirst() {
        TwoEchoes x = Check.valley("");
        Check.due("WIDE", x.valley(0, 0), 12);
        Check.due("PEOPLE", x.valley(0, 1), 0);
        Check.due("FOGS and SNOWS", x.valley(0, 2), 0);
        for (int word = 0; word < 8; word++) {
            Check.due("SHOULD", x.valley(0, 10 + word), word);
            Check.due("THOUGHT", x.valley(0, 20 + word), 0);
            Check.due("WEIGHT", x.valley(0, 30 + word), 1);
        }
        for (int what : new int[] {-11, -1, 3, 9, 18, 19, 28, 38, 40, 50, 60, 70, 80, 90, 100, 110, Integer.MIN_VALUE}) {
            Check.due("valley(0, " + what + ")", x.valley(0, what), -1);
        }
        Check.due("valley(1, 0)", x.valley(1, 0), -1);
        Check.due("valley(-1, 0)", x.valley(-1, 0), -1);
    }

    private static void asItIsTold() {
        TwoEchoes x = Check.valley(Check.VALLEY + "should 3 0;should 3 1;");
        int[][] due = {{0, 10}, {1, 5}, {2, 2}, {11, 2}, {12, 1}, {13, 1}, {14, 4}, {21, 4}, {22, 0}, {30, 5}, {31, 3},
            {40, 0}, {41, 1}, {42, 1}, {43, 0}, {44, 2}, {45, -1}, {50, 2}, {51, 5}, {52, 9}, {53, 7}, {54, 0}, {55, -1},
            {60, 30}, {61, 50}, {62, 40}, {63, 45}, {64, 0}, {65, -1}, {70, 0}, {71, 1}, {72, -1}, {80, 20}, {81, 40},
            {82, -1}, {90, 30}, {91, 50}, {92, -1}, {100, -1}, {101, -1}};
        for (int[] pair : due) {
            Check.due("valley(0, " + pair[0] + ")", x.valley(0, pair[0]), pair[1]);
        }
    }

    private static void hearing() {
        TwoEchoes x = Check.valley(Check.VALLEY);
        Check.due("VOICE", x.heard(0, 2, 1, 1, 0, 5, 0), 3);
        Check.due("VOICE back", x.heard(0, 5, 1, 1, 7, 2, 0), 10);
        Check.due("VOICE at its own PLACE", x.heard(0, 5, 1, 0, 7, 5, 0), 7);
        Check.due("LEFT echoes", x.heard(0, 2, 1, 1, 0, 5, 1), 7);
        Check.due("RIGHT judges", x.heard(0, 2, 1, 1, 0, 5, 2), 17);
        Check.due("RIGHT, THOUGHT 0", x.heard(0, 2, 0, 1, 0, 5, 2), 13);
        Check.due("a whisper by the LEFT, too far", x.heard(0, 2, 1, 0, 0, 5, 1), -1);
        Check.due("a whisper by the LEFT, just so far", x.heard(0, 2, 1, 0, 0, 4, 1), 6);
        Check.due("a whisper, 6", x.heard(0, 2, 1, 0, 0, 8, 0), 6);
        Check.due("a whisper, 7", x.heard(0, 2, 1, 0, 0, 9, 0), -1);
        Check.due("a say, 18", x.heard(0, 2, 1, 1, 0, 0, 2), 22);
        Check.due("a say, 19", x.heard(0, 1, 1, 1, 0, 0, 2), -1);
        Check.due("a shout, 20", x.heard(0, 0, 1, 2, 0, 0, 2), 24);
        Check.due("FOG, LEFT judges", x.heard(0, 2, 1, 1, 20, 5, 1), 31);
        Check.due("FOG, RIGHT echoes", x.heard(0, 2, 1, 1, 20, 5, 2), 33);
        Check.due("FOG at its end", x.heard(0, 2, 1, 1, 30, 5, 1), 41);
        Check.due("behind the FOG", x.heard(0, 2, 1, 1, 31, 5, 1), 38);
        Check.due("ahead of the FOG", x.heard(0, 2, 1, 1, 19, 5, 1), 26);
        Check.due("SNOW, LEFT", x.heard(0, 2, 1, 1, 40, 5, 1), -1);
        Check.due("SNOW, RIGHT", x.heard(0, 2, 1, 1, 40, 5, 2), 57);
        Check.due("SNOW, VOICE", x.heard(0, 2, 1, 1, 40, 5, 0), 43);
        Check.due("SNOW at its end", x.heard(0, 2, 1, 1, 50, 5, 1), -1);
        Check.due("behind the SNOW", x.heard(0, 2, 1, 1, 51, 5, 1), 58);
        Check.due("beyond minute 99", x.heard(0, 0, 1, 2, 99, 0, 2), 123);
        int[][] none = {{1, 2, 1, 1, 0, 5, 0}, {-1, 2, 1, 1, 0, 5, 0}, {0, 11, 1, 1, 0, 5, 0}, {0, -1, 1, 1, 0, 5, 0},
            {0, 2, 8, 1, 0, 5, 0}, {0, 2, -1, 1, 0, 5, 0}, {0, 2, 1, 3, 0, 5, 0}, {0, 2, 1, -1, 0, 5, 0},
            {0, 2, 1, 1, 100, 5, 0}, {0, 2, 1, 1, -1, 5, 0}, {0, 2, 1, 1, 0, 11, 0}, {0, 2, 1, 1, 0, -1, 0},
            {0, 2, 1, 1, 0, 5, 3}, {0, 2, 1, 1, 0, 5, -1}};
        for (int[] n : none) {
            Check.due("heard of none such", x.heard(n[0], n[1], n[2], n[3], n[4], n[5], n[6]), -1);
        }
    }

    private static void giving() {
        TwoEchoes x = Check.valley(Check.VALLEY);
        Check.due("LEFT", x.gives(0, 1, 0, 1), 1);
        Check.due("RIGHT", x.gives(0, 1, 0, 2), 2);
        Check.due("LEFT in a FOG", x.gives(0, 1, 20, 1), 2);
        Check.due("RIGHT in a FOG", x.gives(0, 1, 30, 2), 1);
        Check.due("LEFT in SNOW", x.gives(0, 1, 45, 1), -1);
        Check.due("RIGHT in SNOW", x.gives(0, 3, 45, 2), 1);
        TwoEchoes both = Check.valley("should 0 5;fog 10 20;snow 15 25;");
        Check.due("LEFT in both", both.gives(0, 0, 15, 1), -1);
        Check.due("RIGHT in both", both.gives(0, 0, 15, 2), 0);
        Check.due("LEFT heard in both", both.heard(0, 3, 0, 2, 15, 3, 1), -1);
        int[][] none = {{1, 1, 0, 1}, {-1, 1, 0, 1}, {0, 8, 0, 1}, {0, -1, 0, 1}, {0, 1, 100, 1}, {0, 1, -1, 1},
            {0, 1, 0, 0}, {0, 1, 0, 3}};
        for (int[] n : none) {
            Check.due("gives of none such", x.gives(n[0], n[1], n[2], n[3]), -1);
        }
    }

    private static void lateness() {
        TwoEchoes x = Check.valley(Check.VALLEY);
        Check.due("late(0, 0, 1)", x.late(0, 0, 1), 24);
        Check.due("late(0, 10, 1)", x.late(0, 10, 1), 4);
        Check.due("late(0, 7, 0)", x.late(0, 7, 0), 6);
        Check.due("late(0, 11, 0)", x.late(0, 11, 0), -1);
        Check.due("late(0, -1, 0)", x.late(0, -1, 0), -1);
        Check.due("late(0, 0, 8)", x.late(0, 0, 8), -1);
        Check.due("late(0, 0, -1)", x.late(0, 0, -1), -1);
        Check.due("late(1, 0, 0)", x.late(1, 0, 0), -1);
    }

    private static void weather() {
        TwoEchoes x = Check.valley(Check.VALLEY);
        int[][] due = {{0, 0}, {19, 0}, {20, 1}, {30, 1}, {31, 0}, {40, 2}, {50, 2}, {51, 0}, {99, 0}, {100, -1}, {-2, -1},
            {-1, 49}};
        for (int[] pair : due) {
            Check.due("weather(0, " + pair[0] + ")", x.weather(0, pair[0]), pair[1]);
        }
        Check.due("weather(1, 0)", x.weather(1, 0), -1);
        TwoEchoes both = Check.valley("fog 0 60;snow 50 99;snow 3 3;fog 99 99;");
        Check.due("FOG", both.weather(0, 49), 1);
        Check.due("both", both.weather(0, 50), 3);
        Check.due("both at 3", both.weather(0, 3), 3);
        Check.due("SNOW", both.weather(0, 61), 2);
        Check.due("both at 99", both.weather(0, 99), 3);
        Check.due("never CLEAR", both.weather(0, -1), 0);
        Check.due("always CLEAR", Check.valley("").weather(0, -1), 100);
        Check.due("CLEAR ahead", Check.valley("fog 50 99;").weather(0, -1), 50);
    }
}
