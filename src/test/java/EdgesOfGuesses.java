/** Terms 4 and 5, what a LESSON and a SIGHT tell, and days by a seed: promises 20, 22, 23, 24. */
final class EdgesOfGuesses {
    private static final int NONE = TwoEchoes.NONE;
    private static final String TWO = "wide 10;seller 2 0;buyer 5 0;";

    private EdgesOfGuesses() {
    }

    static void run() {
        rulesOfTerms();
        sightsOfTerms();
        draws();
    }

    private static void rulesOfTerms() {
        Edge.test("Terms 4", "a and b, 0 .. 7 each: of a WORD w comes a times w, and b, remainder by 8.",
            EdgesOfGuesses::remainder);
        Edge.test("Terms 4", "FITS: how many RULES are such that all PAIRS but LIES of them, or fewer, are so",
            EdgesOfGuesses::fits);
        Edge.test("Terms 4", "LEAST: the fewest PAIRS that are not so, by any RULE", EdgesOfGuesses::fewestMisses);
        Edge.test("Terms 4", "the RULE (8 times a, and b) of these, the least number", EdgesOfGuesses::leastRule);
        Edge.test("Terms 4", "COMES of a WORD: the WORD that comes of it by all that FIT", EdgesOfGuesses::comes);
        Edge.test("Terms 4",
            "CALL: the WORD for which the greatest number of RULES that FIT by which one WORD comes is least, of "
            + "several the least.", EdgesOfGuesses::call);
        Edge.test("Promise 20", "What 0: FITS, 1: LEAST, 2: the RULE of these", EdgesOfGuesses::rulesWhat);
        Edge.test("Promise 20", "3: CALL (NONE: nothing FITS)", EdgesOfGuesses::noCall);
        Edge.test("Promise 20", "10 + w: COMES of a WORD (NONE: not one, or nothing FITS).", EdgesOfGuesses::comesNone);
        Edge.test("Promise 20", "-2: there is none such, or for another what.", EdgesOfGuesses::noSuchRules);
    }

    private static void sightsOfTerms() {
        Edge.test("Terms 4", "there was one shout: SAID: all PLACES of the VALLEY, minutes, 0 .. 99, and WORDS",
            EdgesOfGuesses::all);
        Edge.test("Terms 4",
            "such that all FACTS are so (heard: by the VOICE, or a wall, that WORD at that PLACE at that minute): how many",
            EdgesOfGuesses::allFactsAreSo);
        Edge.test("Terms 4", "the k-th, as 1,000 times the PLACE, 10 times the minute, and the WORD, rising.",
            EdgesOfGuesses::kth);
        Edge.test("Terms 4", "SPOT: the PLACE of all that are SAID, if there is one.", EdgesOfGuesses::onePlace);
        Edge.test("Terms 4",
            "LISTEN: a PLACE of the VALLEY and a minute, 0 .. 99 (100 times the PLACE, and the minute)",
            EdgesOfGuesses::placeAndMinute);
        Edge.test("Terms 4",
            "such that of all SAID the greater number, something being heard there then or not, is least",
            EdgesOfGuesses::greaterNumber);
        Edge.test("Terms 4", "is least; of several the least.", EdgesOfGuesses::leastOfSeveral);
        Edge.test("Promise 22", "SAID: how many (k NONE), or the k-th.", EdgesOfGuesses::said);
        Edge.test("Promise 22", "NONE: a PLACE told of is not there", EdgesOfGuesses::placeToldOf);
        Edge.test("Promise 22", "or there is none such (of any).", EdgesOfGuesses::noSuchSaid);
        Edge.test("Promise 23", "SPOT, or (listen) LISTEN.", EdgesOfGuesses::spot);
        Edge.test("Promise 23", "NONE: there is none, nothing is SAID so", EdgesOfGuesses::nothingSaid);
        Edge.test("Promise 23", "or as said().", EdgesOfGuesses::noSuchSpot);
    }

    private static void draws() {
        Edge.test("Terms 5", "DRAWN by a SEED, x", EdgesOfGuesses::seeds);
        Edge.test("Terms 5",
            "x becomes x * 1103515245 + 12345 (of 32 bits), it is x shifted right by 16 without sign, remainder by n",
            EdgesOfGuesses::withoutSign);
        Edge.test("Terms 5", "n times, 0 to 60", EdgesOfGuesses::noughtToSixty);
        Edge.test("Terms 5",
            "a PERSON, a number below PEOPLE, a number below 6: 0, 1, 2: whisper, say, shout, of a WORD, below 8",
            EdgesOfGuesses::sayingsDrawn);
        Edge.test("Terms 5", "3, 4: walk, to a PLACE, below WIDE and 1 more", EdgesOfGuesses::walksDrawn);
        Edge.test("Terms 5", "5: wait, 1 more than a number below 9", EdgesOfGuesses::waitsDrawn);
        Edge.test("Terms 5", "each, if it may.", EdgesOfGuesses::ifItMay);
        Edge.test("Promise 24", "DRAWN, n times, what as state().", EdgesOfGuesses::whatAsState);
        Edge.test("Promise 24", "-2: there are no PEOPLE", EdgesOfGuesses::noPeople);
        Edge.test("Promise 24", "there is none such, another n, or for another what.", EdgesOfGuesses::noSuchDrawn);
    }

    private static void rulesAre(String lesson, int fits, int least, int rule, int call) {
        TwoEchoes x = Edge.reads(2, lesson);
        Edge.each("rules of " + lesson, n -> x.rules(0, n), 0, fits, 1, least, 2, rule, 3, call);
    }

    private static void remainder() {
        rulesAre("gave 0 7;gave 7 0;", 1, 0, 63, 0);
        TwoEchoes x = Edge.reads(2, "gave 0 7;gave 7 0;");
        Edge.each("7 times w, and 7", n -> x.rules(0, 10 + n), 0, 7, 1, 6, 2, 5, 3, 4, 4, 3, 5, 2, 6, 1, 7, 0);
        rulesAre("gave 0 0;gave 1 0;", 1, 0, 0, 0);
    }

    private static void fits() {
        rulesAre("", 64, 0, 0, 0);
        rulesAre("gave 0 0;gave 0 1;", 0, 1, 0, NONE);
        rulesAre("gave 0 0;gave 0 1;lies 1;", 16, 1, 0, 1);
        rulesAre("gave 0 0;gave 0 1;lies 2;", 64, 1, 0, 0);
        rulesAre("lies 9;" + "gave 0 0;".repeat(10), 8, 0, 0, 1);
        rulesAre("lies 9;" + "gave 0 0;".repeat(9), 64, 0, 0, 0);
        rulesAre("lies 0;gave 0 5;", 8, 0, 5, 1);
    }

    private static void fewestMisses() {
        rulesAre("gave 3 0;gave 3 1;gave 3 2;gave 3 3;gave 3 4;gave 3 5;gave 3 6;gave 3 7;gave 3 0;gave 3 1;", 0, 8, 0,
            NONE);
        rulesAre("gave 0 1;gave 0 2;gave 0 2;", 0, 1, 2, NONE);
        rulesAre("gave 0 1;gave 0 1;gave 0 1;", 8, 0, 1, 1);
    }

    private static void leastRule() {
        rulesAre("gave 0 3;", 8, 0, 3, 1);
        rulesAre("gave 1 0;", 8, 0, 0, 0);
        rulesAre("gave 1 7;gave 0 0;", 1, 0, 56, 0);
        rulesAre("gave 4 4;gave 0 0;", 4, 0, 8, 1);
        rulesAre("gave 0 7;gave 0 6;", 0, 1, 6, NONE);
    }

    private static void comes() {
        TwoEchoes x = Edge.reads(2, "gave 4 4;gave 0 0;");
        Edge.each("by all that FIT", n -> x.rules(0, 10 + n), 0, 0, 1, NONE, 2, NONE, 3, NONE, 4, 4, 5, NONE, 6, NONE,
            7, NONE);
        TwoEchoes lies = Edge.reads(2, "gave 0 3;gave 1 5;gave 2 0;lies 1;");
        Edge.each("with a LIE", n -> lies.rules(0, 10 + n), 0, NONE, 1, 5, 2, NONE, 7, NONE);
        TwoEchoes fewer = Edge.reads(2, "lies 2;gave 0 3;gave 0 3;gave 0 3;");
        Edge.each("with fewer LIES than might be", n -> fewer.rules(0, n), 0, 8, 10, 3, 11, NONE);
        TwoEchoes nought = Edge.reads(2, "gave 0 0;gave 1 0;");
        Edge.same("by RULE 0 alone", n -> nought.rules(0, 10 + n), 0, 0, 1, 2, 3, 4, 5, 6, 7);
    }

    private static void call() {
        rulesAre("gave 1 3;", 8, 0, 3, 0);
        rulesAre("gave 0 3;", 8, 0, 3, 1);
        rulesAre("gave 0 3;gave 4 7;", 4, 0, 11, 1);
        rulesAre("gave 0 3;gave 2 5;", 2, 0, 11, 1);
        rulesAre("gave 1 1;gave 0 0;", 1, 0, 8, 0);
        rulesAre("gave 0 0;gave 2 0;", 2, 0, 0, 1);
        rulesAre("gave 0 0;gave 1 1;lies 1;", 15, 0, 8, 2);
        rulesAre("gave 0 0;gave 3 4;lies 1;", 15, 0, 32, 1);
        rulesAre("gave 0 0;gave 1 1;gave 6 1;lies 2;", 22, 1, 1, 3);
        rulesAre("gave 0 0;gave 2 0;gave 5 4;lies 2;", 21, 0, 32, 3);
    }

    private static void rulesWhat() {
        TwoEchoes x = Edge.reads(2, "gave 1 7;gave 0 0;gave 0 0;gave 0 1;lies 1;");
        Edge.each("what", n -> x.rules(0, n), 0, 1, 1, 1, 2, 56, 3, 0, 10, 0, 17, 1);
    }

    private static void noCall() {
        TwoEchoes x = Edge.reads(2, "gave 0 0;gave 0 1;");
        Check.due("nothing FITS", x.rules(0, 0), 0);
        Check.due("no CALL", x.rules(0, 3), NONE);
        Check.due("with a LIE", Edge.reads(2, "gave 0 0;gave 0 1;lies 1;").rules(0, 3), 1);
    }

    private static void comesNone() {
        TwoEchoes nothing = Edge.reads(2, "gave 0 0;gave 0 1;");
        Edge.same("nothing FITS", n -> nothing.rules(0, n), NONE, 10, 11, 14, 17);
        TwoEchoes some = Edge.reads(2, "gave 0 6;");
        Edge.each("not one", n -> some.rules(0, n), 10, 6, 11, NONE, 14, NONE, 17, NONE);
        TwoEchoes none = Edge.reads(2, "");
        Edge.same("no PAIRS", n -> none.rules(0, n), NONE, 10, 11, 17);
    }

    private static void noSuchRules() {
        TwoEchoes x = Edge.reads(2, "gave 0 6;");
        for (int what : new int[] {0, 1, 2, 3, 10}) {
            Edge.same("LESSON", n -> x.rules(n, what), -2, -1, 1, 2, Edge.LOW, Edge.HIGH);
        }
        Edge.same("what", n -> x.rules(0, n), -2, -1, 4, 5, 9, 18, 19, 20, Edge.LOW, Edge.LOW + 10, Edge.HIGH);
    }

    /** A VALLEY and a SIGHT, both 0. */
    private static TwoEchoes sight(String valley, String sight) {
        TwoEchoes x = Edge.reads(0, valley);
        Check.due("SIGHT " + sight, Check.tell(x, 3, sight), 0);
        return x;
    }

    private static void saidIs(String valley, String sight, int... said) {
        TwoEchoes x = sight(valley, sight);
        Check.due("how many", x.said(0, 0, NONE), said.length);
        for (int k = 0; k < said.length; k++) {
            Check.due("the " + k + "-th", x.said(0, 0, k), said[k]);
        }
        Check.due("one beyond", x.said(0, 0, said.length), NONE);
    }

    private static void all() {
        TwoEchoes small = sight("wide 2;", "");
        Edge.each("of 3 PLACES", n -> small.said(0, 0, n), NONE, 2400, 0, 0, 7, 7, 8, 10, 799, 997, 800, 1000, 2399,
            2997, 2400, NONE);
        TwoEchoes wide = sight("wide 30;fog 0 99;snow 0 99;", "");
        Edge.each("of 31 PLACES", n -> wide.said(0, 0, n), NONE, 24800, 24799, 30997, 24800, NONE);
    }

    private static void allFactsAreSo() {
        saidIs("wide 2;", "heard 0 0 5;", 5);
        saidIs("wide 2;", "heard 0 4 5;", 5, 45, 1015, 1035, 2025);
        saidIs("wide 2;", "heard 2 99 7;", 977, 1967, 1987, 2957, 2997);
        saidIs("wide 2;", "heard 0 4 5;not 0 4 5;");
        saidIs("wide 2;", "heard 0 4 5;heard 0 0 5;", 5);
        saidIs("wide 2;", "heard 0 4 5;heard 0 2 5;", 1015);
        saidIs("wide 2;", "heard 0 4 5;heard 0 3 5;");
        Check.due("all but one", sight("wide 2;", "not 0 0 5;").said(0, 0, NONE), 2399);
        Check.due("not, of eight", sight("wide 2;",
            "not 0 0 0;not 0 0 1;not 0 0 2;not 0 0 3;not 0 0 4;not 0 0 5;not 0 0 6;not 0 0 7;")
            .said(0, 0, 0), 10);
        saidIs("wide 2;should 3 5;thought 3 2;", "heard 2 2 5;not 2 2 3;", 5, 1015, 2003, 2025);
        saidIs("wide 2;should 5 3;fog 0 99;", "heard 0 0 3;", 3, 5);
        saidIs("wide 2;should 3 5;fog 0 0;", "heard 1 2 5;", 15, 1003, 1005, 1025, 2013, 2015);
        saidIs("wide 2;snow 0 0;", "heard 2 4 5;", 25, 1015, 1035, 2045);
        saidIs("wide 2;", "heard 2 4 5;", 25, 1015, 1035, 2005, 2045);
        saidIs("wide 2;", "heard 0 0 0;not 0 0 0;");
        saidIs("wide 2;should 3 0;thought 3 9;", "heard 0 20 0;", 73, 160, 200, 1083, 1170, 1190, 2093, 2180);
        saidIs("wide 2;snow 0 0;", "heard 2 4 5;not 2 2 5;not 1 3 5;", 2045);
    }

    private static void kth() {
        saidIs("wide 2;", "heard 0 99 5;", 955, 995, 1965, 1985, 2975);
        saidIs("wide 2;should 0 5;should 7 5;thought 7 1;", "heard 2 0 5;", 2000, 2005);
        saidIs("wide 2;should 0 5;should 7 5;thought 7 1;", "heard 2 1 5;not 2 1 0;", 1005, 2007, 2015);
        saidIs("wide 30;", "heard 30 0 7;", 30007);
    }

    private static void onePlace() {
        Check.due("one", sight("wide 2;", "heard 0 0 5;").spot(0, 0, false), 0);
        Check.due("the last one", sight("wide 30;", "heard 30 0 7;").spot(0, 0, false), 30);
        Check.due("two of one PLACE", sight("wide 2;should 0 5;", "heard 2 0 5;").spot(0, 0, false), 2);
        Check.due("of two PLACES", sight("wide 2;", "heard 0 1 5;").spot(0, 0, false), NONE);
        Check.due("of all", sight("wide 2;", "").spot(0, 0, false), NONE);
        Check.due("none outside the VALLEY", sight("wide 2;snow 1 1;", "heard 0 2 5;not 1 1 5;").spot(0, 0, false), 0);
    }

    private static void placeAndMinute() {
        Check.due("at 0", sight("wide 2;", "heard 0 1 5;").spot(0, 0, true), 3);
        Check.due("at 1", sight("wide 2;", "heard 0 99 5;").spot(0, 0, true), 196);
        Check.due("at 1, minute 99", sight("wide 3;", "heard 0 98 5;").spot(0, 0, true), 199);
        Check.due("at 2: minute 100 is none", sight("wide 3;", "heard 0 99 5;").spot(0, 0, true), 295);
    }

    private static void greaterNumber() {
        Check.due("2 or 1 of 3", sight("wide 2;", "heard 0 2 5;").spot(0, 0, true), 4);
        Check.due("3 or 3 of 6", sight("wide 2;", "heard 1 99 5;").spot(0, 0, true), 98);
        Check.due("4 or 4 of 8, thought about for 9", sight("wide 2;thought 3 9;", "heard 1 50 3;").spot(0, 0, true),
            251);
        Check.due("2 or 1 of 3, something being heard there then", sight("wide 2;", "heard 2 2 5;").spot(0, 0, true),
            0);
        String thought = "wide 2;thought 0 3;thought 3 9;";
        Check.due("1 or 1 of 2, thought about for 3", sight(thought, "heard 0 1 0;").spot(0, 0, true), 6);
        Check.due("in FOG", sight(thought + "should 0 3;fog 0 99;", "heard 0 1 0;").spot(0, 0, true), 3);
        Check.due("6 or 3 of 9", sight(thought + "should 0 3;", "heard 0 20 3;").spot(0, 0, true), 121);
        Check.due("7 or 4 of 11 in FOG", sight(thought + "should 0 3;fog 0 99;", "heard 0 20 3;").spot(0, 0, true),
            119);
        Check.due("6 or 3 of 9 in FOG", sight(thought + "should 0 3;fog 0 99;", "heard 2 20 3;").spot(0, 0, true), 9);
        Check.due("7 or 4 of 11", sight(thought + "should 0 3;", "heard 2 20 3;").spot(0, 0, true), 22);
        Check.due("3 or 2 of 5", sight(thought + "should 3 0;", "heard 1 20 3;").spot(0, 0, true), 19);
        Check.due("2 or 1 of 3", sight(thought + "should 3 0;", "heard 0 20 3;").spot(0, 0, true), 29);
        Check.due("2 or 2 of 4 in SNOW", sight("wide 2;snow 0 0;", "heard 2 4 5;").spot(0, 0, true), 2);
        TwoEchoes twice = sight("wide 2;", "heard 0 99 5;");
        Check.tell(twice, 3, "heard 0 1 5;");
        Check.due("one SIGHT", twice.spot(0, 0, true), 196);
        Check.due("another SIGHT behind it", twice.spot(0, 1, true), 3);
        Check.due("the first one again", twice.spot(0, 0, true), 196);
    }

    private static void leastOfSeveral() {
        Check.due("one alone: everywhere alike", sight("wide 2;", "heard 0 0 5;").spot(0, 0, true), 0);
        Check.due("one alone at the other wall", sight("wide 30;", "heard 30 0 7;").spot(0, 0, true), 0);
        Check.due("1 or 1 of 2", sight("wide 3;", "heard 0 1 5;").spot(0, 0, true), 5);
        Check.due("2 or 1 of 3", sight("wide 3;", "heard 3 2 5;").spot(0, 0, true), 1);
    }

    private static void said() {
        TwoEchoes x = sight("wide 2;", "heard 0 4 5;");
        Edge.each("said", n -> x.said(0, 0, n), NONE, 5, 0, 5, 1, 45, 2, 1015, 3, 1035, 4, 2025);
        Check.tell(x, 0, "wide 3;");
        Check.tell(x, 3, "heard 0 0 1;");
        Check.due("in another VALLEY", x.said(1, 0, NONE), 5);
        Check.due("in another VALLEY, the last", x.said(1, 0, 4), 3015);
        Check.due("by another SIGHT", x.said(0, 1, NONE), 1);
        Check.due("by another SIGHT, the first", x.said(0, 1, 0), 1);
    }

    private static void placeToldOf() {
        TwoEchoes x = sight("wide 5;", "not 0 0 0;heard 5 0 0;");
        Check.tell(x, 3, "not 0 0 0;not 6 0 0;");
        Check.due("it is there", x.said(0, 0, NONE), 1);
        Edge.same("it is not there", n -> x.said(0, 1, n), NONE, NONE, 0, 1);
        Check.tell(x, 0, "wide 6;");
        Check.due("it is there in another VALLEY", x.said(1, 1, NONE), 5600 - 2);
        TwoEchoes far = sight("wide 29;", "not 30 99 0;");
        Check.due("30 is not there", far.said(0, 0, NONE), NONE);
    }

    private static void noSuchSaid() {
        TwoEchoes x = sight("wide 2;", "heard 0 4 5;");
        for (int k : new int[] {NONE, 0}) {
            Edge.same("VALLEY", n -> x.said(n, 0, k), NONE, -1, 1, 2, Edge.LOW, Edge.HIGH);
            Edge.same("SIGHT", n -> x.said(0, n, k), NONE, -1, 1, 2, Edge.LOW, Edge.HIGH);
        }
        Edge.same("k", n -> x.said(0, 0, n), NONE, -2, 5, 6, 24800, Edge.LOW, Edge.HIGH);
        TwoEchoes none = sight("wide 2;", "heard 0 0 5;heard 0 0 6;");
        Check.due("nothing SAID: none", none.said(0, 0, NONE), 0);
        Edge.same("nothing SAID, k", n -> none.said(0, 0, n), NONE, 0, 1, -2);
    }

    private static void spot() {
        TwoEchoes x = sight("wide 2;", "heard 2 1 5;not 2 0 5;not 1 0 5;");
        Check.due("SPOT", x.spot(0, 0, false), 2);
        Check.due("LISTEN", x.spot(0, 0, true), 0);
        TwoEchoes y = sight("wide 2;", "heard 2 1 5;");
        Check.due("SPOT of two PLACES", y.spot(0, 0, false), NONE);
        Check.due("LISTEN of two PLACES", y.spot(0, 0, true), 1);
    }

    private static void nothingSaid() {
        TwoEchoes x = sight("wide 2;", "heard 0 0 5;heard 0 0 6;");
        Check.due("SPOT", x.spot(0, 0, false), NONE);
        Check.due("LISTEN", x.spot(0, 0, true), NONE);
    }

    private static void noSuchSpot() {
        TwoEchoes x = sight("wide 5;", "heard 5 0 5;");
        Check.tell(x, 3, "heard 6 0 5;");
        for (boolean listen : new boolean[] {false, true}) {
            Edge.same("VALLEY", n -> x.spot(n, 0, listen), NONE, -1, 1, 2, Edge.LOW, Edge.HIGH);
            Edge.same("SIGHT", n -> x.spot(0, n, listen), NONE, -1, 2, 3, Edge.LOW, Edge.HIGH);
            Check.due("a PLACE told of is not there", x.spot(0, 1, listen), NONE);
            Check.due("it is there", x.spot(0, 0, listen), listen ? 0 : 5);
        }
    }

    private static void drawnIs(int seed, int[] now, int[] sayings) {
        TwoEchoes x = Edge.reads(0, TWO);
        for (int n = 0; n < now.length; n++) {
            Check.due("NOW behind " + n + " of " + seed, x.drawn(0, seed, n, 0), now[n]);
            Check.due("sayings of " + n + " of " + seed, x.drawn(0, seed, n, 1), sayings[n]);
        }
    }

    /** shout 0 4; whisper 1 7; walk 1 10; wait 8; shout 1 7; walk 1 8; walk 0 2; say 1 7. */
    private static void seeds() {
        drawnIs(0, new int[] {0, 0, 0, 5, 13, 13, 15, 15, 15}, new int[] {0, 1, 2, 2, 2, 3, 3, 3, 4});
        TwoEchoes x = Edge.reads(0, TWO);
        Edge.each("PLACE of 1", n -> x.drawn(0, 0, n, 11), 0, 5, 2, 5, 3, 10, 5, 10, 6, 8, 8, 8);
        Check.due("the same SEED draws the same", x.drawn(0, 0, 6, 11), 8);
    }

    /** Of -1: wait 8; say 0 2; say 0 0; wait 1; whisper 1 5; walk 0 8; walk 1 10; shout 0 6. */
    private static void withoutSign() {
        drawnIs(-1, new int[] {0, 8, 8, 8, 9, 9, 15, 20, 20}, new int[] {0, 0, 1, 2, 2, 3, 3, 3, 4});
        drawnIs(Edge.LOW, new int[] {0, 0, 0, 0, 0, 5, 5, 9, 12}, new int[] {0, 1, 2, 3, 3, 3, 4, 4, 4});
        drawnIs(Edge.HIGH, new int[] {0, 0, 2, 7, 7, 8, 16, 16, 17}, new int[] {0, 1, 1, 1, 2, 2, 2, 3, 3});
    }

    private static void noughtToSixty() {
        TwoEchoes x = Edge.reads(0, "wide 30;seller 0 0;buyer 30 0;");
        Edge.each("sayings", n -> x.drawn(0, 7, n, 1), 0, 0, 1, 1, 58, 32, 60, 33, -1, -2, 61, -2);
        Edge.each("PLACE of 1", n -> x.drawn(0, 7, n, 11), 0, 30, 60, 23, -1, -2, 61, -2);
    }

    /** The shout of 4 from 2 comes to 5 at 3, by the LEFT wall at 7, by the RIGHT one at 13; whispers of 7 by neither. */
    private static void sayingsDrawn() {
        TwoEchoes x = Edge.reads(0, TWO);
        Edge.each("how often 1 heard one", n -> x.drawn(0, 0, n, 31), 1, 0, 2, 0, 3, 1, 4, 3);
        Edge.each("WORDS that 1 heard", n -> x.drawn(0, 0, n, 21), 1, 0, 3, 16, 4, 16);
        Edge.each("how often 0 heard one", n -> x.drawn(0, 0, n, 30), 1, 0, 2, 0, 3, 2, 4, 2);
        Edge.each("WORDS that 0 heard", n -> x.drawn(0, 0, n, 20), 3, 144, 4, 144);
        Check.due("a whisper comes to 6", drawnFor(2985, 6, 4), 2);
        Check.due("a whisper comes not to 7", drawnFor(2985, 7, 4), 0);
        Check.due("a say comes to 18", drawnFor(570, 18, 4), 2);
        Check.due("a say comes not to 19", drawnFor(570, 19, 4), 0);
        Check.due("a shout comes to 19", drawnFor(329, 19, 4), 3);
        Check.due("one PERSON is drawn, too", Edge.reads(0, "wide 2;seller 1 0;").drawn(0, 5, 6, 1), 3);
    }

    /** How often one at a PLACE hears the saying of one at 0, which a SEED draws first, then walks and waits. */
    private static int drawnFor(int seed, int place, int n) {
        return Edge.reads(0, "wide 30;seller 0 0;buyer " + place + " 0;").drawn(0, seed, n, 31);
    }

    /** Of 6, in a VALLEY of 2 with one PERSON: walk 0 1; whisper 0 1; say 0 7; walk 0 0; walk 0 2; walk 0 0. */
    private static void walksDrawn() {
        TwoEchoes x = Edge.reads(0, "wide 2;seller 1 0;");
        Edge.each("PLACE", n -> x.drawn(0, 6, n, 10), 0, 1, 1, 1, 3, 1, 4, 0, 5, 2, 6, 0);
        Edge.each("NOW", n -> x.drawn(0, 6, n, 0), 0, 0, 1, 0, 3, 0, 4, 1, 5, 3, 6, 5);
    }

    /** Of 5, in a VALLEY of 2 with one PERSON: wait 6; say 0 4; wait 1; walk 0 2; say 0 1; shout 0 1. */
    private static void waitsDrawn() {
        TwoEchoes x = Edge.reads(0, "wide 2;seller 1 0;");
        Edge.each("NOW", n -> x.drawn(0, 5, n, 0), 0, 0, 1, 6, 2, 6, 3, 7, 4, 8, 5, 8, 6, 8);
        Check.due("nine minutes", Edge.reads(0, "wide 30;seller 0 0;buyer 30 0;").drawn(0, 7, 18, 0), 72);
    }

    /** Of 7: walk 1 23 up to 99, then no wait and no walk may be, but sayings. */
    private static void ifItMay() {
        TwoEchoes x = Edge.reads(0, "wide 30;seller 0 0;buyer 30 0;");
        Edge.each("NOW", n -> x.drawn(0, 7, n, 0), 26, 72, 27, 79, 28, 99, 31, 99, 60, 99);
        Edge.each("PLACE of 1", n -> x.drawn(0, 7, n, 11), 27, 3, 28, 23, 33, 23, 60, 23);
        Edge.each("sayings", n -> x.drawn(0, 7, n, 1), 60, 33);
        Edge.each("up to 97, of 1", n -> x.drawn(0, 1, n, 0), 28, 94, 29, 97, 60, 97);
        Check.due("PLACE of 0 behind 60 of 1", x.drawn(0, 1, 60, 10), 25);
        Check.due("PLACE of 1 behind 60 of 1", x.drawn(0, 1, 60, 11), 23);
        Check.due("PLACE of 1 behind 60 of 2", x.drawn(0, 2, 60, 11), 0);
    }

    /** The same DEEDS told as a DAY. */
    private static void whatAsState() {
        TwoEchoes x = Edge.reads(0, TWO);
        Check.tell(x, 1, "shout 0 4;whisper 1 7;walk 1 10;wait 8;shout 1 7;walk 1 8;walk 0 2;say 1 7;");
        for (int n = 0; n <= 8; n++) {
            for (int what : new int[] {0, 1, 2, 3, 4, 5, 9, 10, 11, 12, 20, 21, 22, 30, 31, 32, 40, 41, 42, 50, -1}) {
                Check.due("drawn(0, 0, " + n + ", " + what + ")", x.drawn(0, 0, n, what), x.state(0, 0, n, what));
            }
        }
    }

    private static void noPeople() {
        TwoEchoes x = Edge.reads(0, "");
        for (int what : new int[] {0, 1, 2, 3, 10}) {
            Edge.same("n", n -> x.drawn(0, 1, n, what), -2, 0, 1, 60);
        }
    }

    private static void noSuchDrawn() {
        TwoEchoes x = Edge.reads(0, TWO);
        Edge.same("VALLEY", n -> x.drawn(n, 1, 5, 0), -2, -1, 1, 2, Edge.LOW, Edge.HIGH);
        Edge.same("n", n -> x.drawn(0, 1, n, 0), -2, -1, 61, Edge.LOW, Edge.HIGH);
        Edge.same("what", n -> x.drawn(0, 1, 5, n), -2, -1, 5, 9, 50, 51, Edge.LOW, Edge.HIGH);
        Edge.same("no such PERSON", n -> x.drawn(0, 1, 5, n), -2, 12, 16, 22, 26, 32, 36, 42, 46);
        Edge.same("what, n 0", n -> x.drawn(0, 1, 0, n), -2, -1, 5, 9, 12, 50);
    }
}
