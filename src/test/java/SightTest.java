import java.util.ArrayList;
import java.util.List;
import java.util.Random;

/** Promises 21, 22 and 23: fact, said, spot. */
public final class SightTest {
    public static void main(String[] args) {
        asItIsTold();
        theShoutIsFound();
        nothingTold();
        wrongOnes();
        slowly();
        Check.end("SightTest");
    }

    private static void asItIsTold() {
        TwoEchoes x = new TwoEchoes();
        Check.tell(x, 3, "heard 5 3 1;not 0 2 7;");
        Check.due("how many", x.fact(0, -1, 0), 2);
        int[][] due = {{1, 5, 3, 1}, {0, 0, 2, 7}};
        for (int k = 0; k < 2; k++) {
            for (int what = 0; what < 4; what++) {
                Check.due("fact(0, " + k + ", " + what + ")", x.fact(0, k, what), due[k][what]);
            }
            Check.due("what 4", x.fact(0, k, 4), -2);
            Check.due("what -1", x.fact(0, k, -1), -2);
        }
        Check.due("fact(0, 2, 0)", x.fact(0, 2, 0), -2);
        Check.due("fact(0, -2, 0)", x.fact(0, -2, 0), -2);
        Check.due("fact(0, NONE, 1)", x.fact(0, -1, 1), -2);
        Check.due("fact(1, NONE, 0)", x.fact(1, -1, 0), -2);
        Check.due("fact(-1, NONE, 0)", x.fact(-1, -1, 0), -2);
    }

    /** In a VALLEY of 2, a shout of 3 from 1 at 7 is heard at 1 at 7 (VOICE) and at 9 (both walls). */
    private static void theShoutIsFound() {
        TwoEchoes x = Check.valley("wide 2;should 3 4;");
        Check.tell(x, 3, "heard 1 7 3;heard 1 9 3;heard 1 9 4;not 1 8 3;not 1 8 4;");
        Check.due("how many", x.said(0, 0, -1), 1);
        Check.due("the first", x.said(0, 0, 0), 1073);
        Check.due("the second", x.said(0, 0, 1), -1);
        Check.due("SPOT", x.spot(0, 0, false), 1);
        Check.due("LISTEN: nothing is to be learnt", x.spot(0, 0, true), 0);
        // by the VOICE and the LEFT wall from 0 at 4, 1 at 3, 2 at 2; by the RIGHT one from 0 at 0, 1 at 1, 2 at 2
        TwoEchoes y = Check.valley("wide 2;");
        Check.tell(y, 3, "heard 0 4 5;");
        int[] all = {5, 45, 1015, 1035, 2025};
        Check.due("how many", y.said(0, 0, -1), all.length);
        for (int k = 0; k < all.length; k++) {
            Check.due("the " + k + "-th", y.said(0, 0, k), all[k]);
        }
        Check.due("beyond", y.said(0, 0, all.length), -1);
        Check.due("ahead", y.said(0, 0, -2), -1);
        Check.due("SPOT", y.spot(0, 0, false), -1);
    }

    private static void nothingTold() {
        TwoEchoes x = Check.valley("wide 30;");
        Check.tell(x, 3, "");
        Check.due("all", x.said(0, 0, -1), 31 * 100 * 8);
        Check.due("the first", x.said(0, 0, 0), 0);
        Check.due("the last", x.said(0, 0, 24799), 30997);
        Check.due("beyond", x.said(0, 0, 24800), -1);
        Check.due("SPOT", x.spot(0, 0, false), -1);
        Check.tell(x, 3, "heard 0 0 1;heard 0 0 2;");
        Check.due("none", x.said(0, 1, -1), 0);
        Check.due("the first of none", x.said(0, 1, 0), -1);
        Check.due("SPOT of none", x.spot(0, 1, false), -1);
        Check.due("LISTEN of none", x.spot(0, 1, true), -1);
    }

    private static void wrongOnes() {
        TwoEchoes x = Check.valley("wide 5;");
        Check.tell(x, 3, "not 5 0 0;");
        Check.tell(x, 3, "not 6 0 0;");
        Check.due("a PLACE at the wall", x.said(0, 0, -1) > 0, true);
        Check.due("a PLACE that is not there", x.said(0, 1, -1), -1);
        Check.due("a PLACE that is not there, k 0", x.said(0, 1, 0), -1);
        Check.due("a PLACE that is not there, SPOT", x.spot(0, 1, false), -1);
        Check.due("a PLACE that is not there, LISTEN", x.spot(0, 1, true), -1);
        Check.due("no SIGHT", x.said(0, 2, -1), -1);
        Check.due("no VALLEY", x.said(1, 0, -1), -1);
        Check.due("no SIGHT, SPOT", x.spot(0, -1, false), -1);
        Check.due("no VALLEY, LISTEN", x.spot(-1, 0, true), -1);
    }

    /** Compares with heard() and gives(), asked for each PLACE, minute and WORD there is. */
    private static void slowly() {
        Random random = new Random(5);
        for (int round = 0; round < 120; round++) {
            int wide = 2 + random.nextInt(round % 8 == 0 ? 29 : 9);
            StringBuilder valley = new StringBuilder("wide " + wide + ";");
            for (int k = random.nextInt(9); k > 0; k--) {
                valley.append("should ").append(random.nextInt(8)).append(' ').append(random.nextInt(8)).append(';');
                valley.append("thought ").append(random.nextInt(8)).append(' ').append(random.nextInt(10)).append(';');
            }
            for (int k = random.nextInt(4); k > 0; k--) {
                int from = random.nextInt(100);
                valley.append(random.nextBoolean() ? "fog " : "snow ").append(from).append(' ');
                valley.append(from + random.nextInt(100 - from)).append(';');
            }
            TwoEchoes x = Check.valley(valley.toString());
            StringBuilder sight = new StringBuilder();
            int place = random.nextInt(wide + 1);
            int minute = random.nextInt(80);
            int word = random.nextInt(8);
            for (int k = random.nextInt(4); k > 0; k--) {
                sight.append(factOf(x, random, wide, place, minute, word));
            }
            Check.due("SIGHT", Check.tell(x, 3, sight.toString()), 0);
            compare(x, wide);
        }
    }

    /** A FACT that is so of one shout, mostly. */
    private static String factOf(TwoEchoes x, Random random, int wide, int place, int minute, int word) {
        int to = random.nextInt(wide + 1);
        int by = random.nextInt(3);
        int then = x.heard(0, place, word, 2, minute, to, by);
        int what = by == 0 ? word : x.gives(0, word, minute, by);
        if (then < 0 || then > 99 || what < 0 || random.nextInt(3) == 0) {
            return "not " + to + " " + random.nextInt(100) + " " + random.nextInt(8) + ";";
        }
        return "heard " + to + " " + then + " " + what + ";";
    }

    private static boolean isSo(TwoEchoes x, int place, int minute, int word, int k) {
        boolean heard = false;
        for (int by = 0; by < 3; by++) {
            int what = by == 0 ? word : x.gives(0, word, minute, by);
            heard |= what == x.fact(0, k, 3)
                && x.heard(0, place, word, 2, minute, x.fact(0, k, 1), by) == x.fact(0, k, 2);
        }
        return heard == (x.fact(0, k, 0) == 1);
    }

    private static void compare(TwoEchoes x, int wide) {
        List<int[]> said = new ArrayList<>();
        boolean[] places = new boolean[wide + 1];
        for (int place = 0; place <= wide; place++) {
            for (int minute = 0; minute < 100; minute++) {
                for (int word = 0; word < 8; word++) {
                    boolean so = true;
                    for (int k = 0; k < x.fact(0, -1, 0) && so; k++) {
                        so = isSo(x, place, minute, word, k);
                    }
                    if (so) {
                        said.add(new int[] {place, minute, word});
                        places[place] = true;
                    }
                }
            }
        }
        Check.due("how many", x.said(0, 0, -1), said.size());
        for (int k = 0; k < said.size(); k += 1 + said.size() / 40) {
            int[] one = said.get(k);
            Check.due("the " + k + "-th", x.said(0, 0, k), 1000L * one[0] + 10L * one[1] + one[2]);
        }
        int spots = 0;
        int spot = -1;
        for (int place = 0; place <= wide; place++) {
            spots += places[place] ? 1 : 0;
            spot = places[place] ? place : spot;
        }
        Check.due("SPOT", x.spot(0, 0, false), spots == 1 ? spot : -1);
        Check.due("LISTEN", x.spot(0, 0, true), listen(x, wide, said));
    }

    private static int listen(TwoEchoes x, int wide, List<int[]> said) {
        int[][] heard = new int[wide + 1][100];
        for (int[] one : said) {
            for (int to = 0; to <= wide; to++) {
                boolean[] then = new boolean[100];
                for (int by = 0; by < 3; by++) {
                    int minute = x.heard(0, one[0], one[2], 2, one[1], to, by);
                    if (minute >= 0 && minute < 100) {
                        then[minute] = true;
                    }
                }
                for (int minute = 0; minute < 100; minute++) {
                    heard[to][minute] += then[minute] ? 1 : 0;
                }
            }
        }
        int best = -1;
        int least = Integer.MAX_VALUE;
        for (int at = 0; at < (wide + 1) * 100 && !said.isEmpty(); at++) {
            int greater = Math.max(heard[at / 100][at % 100], said.size() - heard[at / 100][at % 100]);
            if (greater < least) {
                least = greater;
                best = at;
            }
        }
        return best;
    }
}
