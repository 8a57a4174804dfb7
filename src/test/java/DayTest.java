/** Promises 9, 10, 11 and 24: deed, stop, state, drawn. */
public final class DayTest {
    private static final String DAY = "say 0 1;wait 9;shout 1 3;walk 0 6;wait 9;whisper 2 5;wait 60;";

    public static void main(String[] args) {
        deeds();
        stops();
        states();
        wrongStates();
        hearingUpToNow();
        drawing();
        Check.end("DayTest");
    }

    private static void deeds() {
        TwoEchoes x = new TwoEchoes();
        Check.tell(x, 1, DAY);
        int[][] due = {{1, 0, 1}, {4, 9, -1}, {2, 1, 3}, {3, 0, 6}, {4, 9, -1}, {0, 2, 5}, {4, 60, -1}};
        Check.due("how many", x.deed(0, -1, 0), 7);
        for (int k = 0; k < due.length; k++) {
            for (int what = 0; what < 3; what++) {
                Check.due("deed(0, " + k + ", " + what + ")", x.deed(0, k, what), due[k][what]);
            }
            Check.due("what 3", x.deed(0, k, 3), -2);
            Check.due("what -1", x.deed(0, k, -1), -2);
        }
        Check.due("deed(0, 7, 0)", x.deed(0, 7, 0), -2);
        Check.due("deed(0, -2, 0)", x.deed(0, -2, 0), -2);
        Check.due("deed(0, NONE, 1)", x.deed(0, -1, 1), -2);
        Check.due("deed(1, NONE, 0)", x.deed(1, -1, 0), -2);
        Check.due("deed(-1, NONE, 0)", x.deed(-1, -1, 0), -2);
    }

    private static int stopOf(String valley, String day) {
        TwoEchoes x = Check.valley(valley);
        Check.due("DAY", Check.tell(x, 1, day), 0);
        return x.stop(0, 0);
    }

    private static void stops() {
        Check.due("all", stopOf(Check.VALLEY, DAY), 7);
        Check.due("no DEEDS", stopOf("", ""), 0);
        Check.due("NOW 99, then 100", stopOf("", "wait 60;wait 39;wait 1;"), 2);
        Check.due("no such PERSON", stopOf("seller 0 0;", "say 0 1;say 1 1;say 0 1;"), 1);
        Check.due("no such PERSON walks", stopOf("", "walk 0 0;"), 0);
        Check.due("no such PLACE", stopOf("seller 0 0;", "walk 0 12;walk 0 13;"), 1);
        Check.due("a walk to where he is, at 99", stopOf("seller 4 0;", "wait 60;wait 39;walk 0 4;say 0 1;walk 0 5;"), 4);
        Check.due("a walk up to 99", stopOf("seller 0 0;", "wait 60;wait 27;walk 0 12;wait 1;"), 3);
        TwoEchoes x = Check.valley("");
        Check.due("no DAY", x.stop(0, 0), -1);
        Check.tell(x, 1, "");
        Check.due("no VALLEY", x.stop(1, 0), -1);
        Check.due("no VALLEY -1", x.stop(-1, 0), -1);
        Check.due("no DAY 1", x.stop(0, 1), -1);
    }

    private static void states() {
        TwoEchoes x = Check.valley(Check.VALLEY);
        Check.tell(x, 1, DAY);
        int[] now = {0, 0, 9, 9, 13, 22, 22, 82};
        int[] sayings = {0, 1, 1, 2, 2, 2, 3, 3};
        int[] clashes = {0, 0, 0, 0, 1, 2, 2, 2};
        int[] placeOfFirst = {2, 2, 2, 2, 6, 6, 6, 6};
        for (int n = 0; n <= 7; n++) {
            Check.due("NOW", x.state(0, 0, n, 0), now[n]);
            Check.due("sayings", x.state(0, 0, n, 1), sayings[n]);
            Check.due("CLASHES", x.state(0, 0, n, 2), clashes[n]);
            Check.due("the first one's minute", x.state(0, 0, n, 3), clashes[n] > 0 ? 13 : -1);
            Check.due("the first one's PERSON", x.state(0, 0, n, 4), clashes[n] > 0 ? 2 : -1);
            Check.due("PLACE of 0", x.state(0, 0, n, 10), placeOfFirst[n]);
            Check.due("PLACE of 4", x.state(0, 0, n, 14), 0);
        }
        int[][] atTwo = {{2, 1, 4}, {2, 2, 3}, {2, 1, 7}, {2, 2, 5}, {2, 2, 2}};
        int[][] atEnd = {{46, 7, 4}, {46, 7, 3}, {46, 7, 7}, {46, 8, 5}, {14, 6, 2}};
        for (int person = 0; person < 5; person++) {
            for (int column = 0; column < 3; column++) {
                int what = 20 + 10 * column + person;
                Check.due("state(0, 0, 2, " + what + ")", x.state(0, 0, 2, what), atTwo[person][column]);
                Check.due("state(0, 0, 7, " + what + ")", x.state(0, 0, 7, what), atEnd[person][column]);
                Check.due("state(0, 0, 1, " + what + ")", x.state(0, 0, 1, what), column == 2 ? -1 : 0);
            }
        }
    }

    private static void wrongStates() {
        TwoEchoes x = Check.valley(Check.VALLEY);
        Check.tell(x, 1, "wait 5;say 5 0;wait 5;");
        Check.due("up to STOP", x.state(0, 0, 1, 0), 5);
        Check.due("beyond STOP", x.state(0, 0, 2, 0), -2);
        Check.due("beyond the DEEDS", x.state(0, 0, 4, 0), -2);
        Check.due("n -1", x.state(0, 0, -1, 0), -2);
        Check.due("no VALLEY", x.state(1, 0, 0, 0), -2);
        Check.due("no DAY", x.state(0, 1, 0, 0), -2);
        for (int what : new int[] {-1, 5, 9, 15, 19, 25, 35, 45, 50, 54, 60, Integer.MIN_VALUE, Integer.MAX_VALUE}) {
            Check.due("state(0, 0, 1, " + what + ")", x.state(0, 0, 1, what), -2);
        }
    }

    /** The speaker stands at the LEFT wall: its echo is there at once; his own VOICE he does not hear. */
    private static void hearingUpToNow() {
        TwoEchoes x = Check.valley("wide 5;seller 0 0;buyer 0 0;buyer 5 0;should 2 3;");
        Check.tell(x, 1, "shout 0 2;wait 4;wait 1;wait 5;");
        Check.due("his echo at once", x.state(0, 0, 1, 30), 1);
        Check.due("VOICE and echo", x.state(0, 0, 1, 31), 2);
        Check.due("nothing yet", x.state(0, 0, 2, 32), 0);
        Check.due("all three ways at 5", x.state(0, 0, 3, 32), 3);
        Check.due("both WORDS", x.state(0, 0, 3, 22), 12);
        Check.due("a CLASH", x.state(0, 0, 3, 2), 1);
        Check.due("its PERSON", x.state(0, 0, 3, 4), 2);
        Check.due("the RIGHT one comes back at 10", x.state(0, 0, 4, 30), 2);
        Check.due("as he stood then", x.state(0, 0, 4, 20), 12);
        TwoEchoes y = Check.valley("wide 10;seller 5 0;");
        Check.tell(y, 1, "shout 0 2;walk 0 0;walk 0 5;");
        Check.due("walked away", y.state(0, 0, 2, 30), 0);
        Check.due("both walls at 10, as if he had stayed", y.state(0, 0, 3, 30), 2);
    }

    private static void drawing() {
        TwoEchoes x = Check.valley(Check.VALLEY);
        Check.due("n 0", x.drawn(0, 1, 0, 0), 0);
        Check.due("n 0, PLACE", x.drawn(0, 1, 0, 11), 5);
        Check.due("n -1", x.drawn(0, 1, -1, 0), -2);
        Check.due("n 61", x.drawn(0, 1, 61, 0), -2);
        Check.due("what 5", x.drawn(0, 1, 5, 5), -2);
        Check.due("what 15", x.drawn(0, 1, 5, 15), -2);
        Check.due("no VALLEY", x.drawn(1, 1, 5, 0), -2);
        Check.due("no PEOPLE", Check.valley("").drawn(0, 1, 0, 0), -2);
        for (int seed = -40; seed < 40; seed++) {
            byHand(seed, 1 + (seed + 40) % 60);
        }
        Check.due("n 60", x.drawn(0, 77, 60, 0) >= 0, true);
        Check.due("n 60, no further than 99", x.drawn(0, 77, 60, 0) <= 99, true);
    }

    /** Draws the same DEEDS here, tells those that may be as a DAY, and compares the STATES. */
    private static void byHand(int seed, int n) {
        TwoEchoes x = Check.valley(Check.VALLEY);
        int[] bits = {seed};
        int[] place = {2, 5, 9, 7, 0};
        int now = 0;
        int told = 0;
        StringBuilder day = new StringBuilder();
        for (int k = 0; k < n; k++) {
            int person = below(bits, 5);
            int act = below(bits, 6);
            if (act < 3) {
                day.append(new String[] {"whisper ", "say ", "shout "}[act]).append(person).append(' ');
                day.append(below(bits, 8)).append(';');
                told++;
            } else if (act < 5) {
                int to = below(bits, 11);
                if (now + Math.abs(to - place[person]) <= 99) {
                    now += Math.abs(to - place[person]);
                    place[person] = to;
                    day.append("walk ").append(person).append(' ').append(to).append(';');
                    told++;
                }
            } else {
                int minutes = 1 + below(bits, 9);
                if (now + minutes <= 99) {
                    now += minutes;
                    day.append("wait ").append(minutes).append(';');
                    told++;
                }
            }
        }
        if (told > 40) {
            return;
        }
        Check.due("DAY", Check.tell(x, 1, day.toString()), 0);
        for (int what = 0; what < 60; what++) {
            Check.due("drawn(0, " + seed + ", " + n + ", " + what + ")", x.drawn(0, seed, n, what),
                x.state(0, 0, told, what));
        }
    }

    private static int below(int[] bits, int n) {
        bits[0] = bits[0] * 1103515245 + 12345;
        return (bits[0] >>> 16) % n;
    }
}
