/** Terms 3 and 6 about WORDS by themselves: promises 14, 15, 18, 25, 26. */
final class EdgesOfWords {
    private static final int NONE = TwoEchoes.NONE;

    private static final String ONE_RING =
        "should 0 1;should 1 2;should 2 3;should 3 4;should 4 5;should 5 6;should 6 7;should 7 0;";
    private static final String LIGHT =
        "weight 0 0;weight 1 0;weight 2 0;weight 3 0;weight 4 0;weight 5 0;weight 6 0;weight 7 0;";
    private static final String STEEP = "weight 0 1;weight 1 2;weight 2 4;weight 3 8;weight 4 16;weight 5 32;weight 6 64;weight 7 99;";

    private EdgesOfWords() {
    }

    static void run() {
        Edge.test("Terms 3",
            "CHAIN of a WORD to a WORD: how many times one is to say what the wall that JUDGES gave, the first WORD "
            + "first, until it gives the other one.", EdgesOfWords::untilItGives);
        Edge.test("Promise 14", "CHAIN.", EdgesOfWords::chain);
        Edge.test("Promise 14", "NONE: never", EdgesOfWords::never);
        Edge.test("Promise 14", "or there is none such (of any).", EdgesOfWords::noSuchChain);
        Edge.test("Terms 3",
            "LATE of a PLACE, a WORD: how many minutes behind its own saying a shout comes back by the wall that "
            + "JUDGES, without FOG.", EdgesOfWords::withoutFog);
        Edge.test("Promise 15", "LATE.", EdgesOfWords::late);
        Edge.test("Promise 15", "NONE: there is none such (of any).", EdgesOfWords::noSuchLate);
        Edge.test("Terms 3", "which of all eight WORDS it is (those of WEIGHT 0, too), by answers of yes and no",
            EdgesOfWords::weightlessWords);
        Edge.test("Terms 3", "each WORD comes as often as its WEIGHT: the fewest answers of all together",
            EdgesOfWords::fewestAnswers);
        Edge.test("Terms 3", "TREE of n: the fewest, if no WORD takes more than n answers, 3 .. 7.",
            EdgesOfWords::trees);
        Edge.test("Promise 18", "TALK (n NONE), or TREE of n.", EdgesOfWords::talk);
        Edge.test("Promise 18", "NONE: there is none such, or another n.", EdgesOfWords::noSuchTalk);
        ringsAndCalls();
    }

    private static void ringsAndCalls() {
        Edge.test("Terms 6", "RINGS: going from a WORD to SHOULD of it, and so on: how many rings of WORDS there are",
            EdgesOfWords::howManyRings);
        Edge.test("Terms 6", "there are; the longest; WORDS in them (bits).", EdgesOfWords::longestRing);
        Edge.test("Promise 25", "RINGS, what 0: how many, 1: the longest, 2: WORDS in them (bits).",
            EdgesOfWords::rings);
        Edge.test("Promise 25", "NONE: there is none such, or for another what.", EdgesOfWords::noSuchRings);
        Edge.test("Terms 6", "UNSURE by n calls, 0 .. 6", EdgesOfWords::noughtToSixCalls);
        Edge.test("Terms 6",
            "WORDS are called as often as their WEIGHTS are, each time anew: how likely all n are WORDS that SHOULD "
            + "be themselves, a fraction in least terms.", EdgesOfWords::leastTerms);
        Edge.test("Promise 26", "UNSURE by n, N, or (under) D.", EdgesOfWords::unsure);
        Edge.test("Promise 26", "NONE: all WEIGHTS are 0", EdgesOfWords::allWeightsNought);
        Edge.test("Promise 26", "there is none such, or another n.", EdgesOfWords::noSuchUnsure);
    }

    private static void untilItGives() {
        TwoEchoes x = Edge.reads(0, "should 1 2;should 2 1;should 3 1;fog 0 99;");
        Edge.each("from 3 to", n -> x.chain(0, 3, n), 1, 1, 2, 2);
        Check.due("a WORD that SHOULD be itself is given at once", x.chain(0, 0, 0), 1);
        Check.due("back to the first WORD", x.chain(0, 1, 1), 2);
        TwoEchoes ring = Edge.reads(0, ONE_RING);
        Edge.each("all round from 5 to", n -> ring.chain(0, 5, n), 6, 1, 7, 2, 0, 3, 4, 7, 5, 8);
    }

    private static void chain() {
        TwoEchoes x = Edge.reads(0, "should 0 7;should 7 3;");
        Check.tell(x, 0, "should 0 3;");
        Check.due("in the first VALLEY", x.chain(0, 0, 3), 2);
        Check.due("in the second one", x.chain(1, 0, 3), 1);
    }

    private static void never() {
        TwoEchoes x = Edge.reads(0, "should 1 2;should 2 1;should 3 1;");
        Check.due("to a WORD that is never given", x.chain(0, 1, 3), NONE);
        Check.due("not even of itself", x.chain(0, 3, 3), NONE);
        Check.due("to one of another ring", x.chain(0, 1, 0), NONE);
    }

    private static void noSuchChain() {
        TwoEchoes x = Edge.reads(0, ONE_RING);
        Edge.same("VALLEY", n -> x.chain(n, 0, 1), NONE, -1, 1, 2, Edge.LOW, Edge.HIGH);
        Edge.same("from", n -> x.chain(0, n, 1), NONE, -1, 8, Edge.LOW, Edge.HIGH);
        Edge.same("to", n -> x.chain(0, 0, n), NONE, -1, 8, Edge.LOW, Edge.HIGH);
    }

    private static void withoutFog() {
        TwoEchoes x = Edge.reads(0, "wide 10;thought 1 9;fog 0 99;snow 0 99;");
        Edge.each("of WORD 1 from", n -> x.late(0, n, 1), 0, 29, 1, 27, 9, 11, 10, 9);
        Edge.each("of WORD 0 from", n -> x.late(0, n, 0), 0, 20, 5, 10, 10, 0);
    }

    private static void late() {
        TwoEchoes x = Edge.reads(0, "wide 30;thought 7 9;");
        Check.due("the latest of all", x.late(0, 0, 7), 69);
        Check.due("at once", x.late(0, 30, 0), 0);
    }

    private static void noSuchLate() {
        TwoEchoes x = Edge.reads(0, "wide 10;");
        Edge.same("VALLEY", n -> x.late(n, 0, 0), NONE, -1, 1, 2, Edge.LOW, Edge.HIGH);
        Edge.same("PLACE", n -> x.late(0, n, 0), NONE, -1, 11, 30, Edge.LOW, Edge.HIGH);
        Edge.same("WORD", n -> x.late(0, 0, n), NONE, -1, 8, Edge.LOW, Edge.HIGH);
    }

    private static void weightlessWords() {
        Check.due("all of WEIGHT 0", Edge.reads(0, LIGHT).talk(0, NONE), 0);
        Check.due("all of WEIGHT 0, TREE of 3", Edge.reads(0, LIGHT).talk(0, 3), 0);
        TwoEchoes one = Edge.reads(0, LIGHT + "weight 4 9;");
        Check.due("one alone takes an answer all the same", one.talk(0, NONE), 9);
        Edge.each("with the others told, too, TREE of", n -> one.talk(0, n), 3, 27, 4, 9, 7, 9);
        TwoEchoes two = Edge.reads(0, LIGHT + "weight 4 9;weight 0 7;");
        Check.due("two take one and two", two.talk(0, NONE), 23);
        Edge.each("two, TREE of", n -> two.talk(0, n), 3, 48, 4, 30, 5, 23);
    }

    private static void fewestAnswers() {
        Check.due("all alike: three each", Edge.reads(0, "").talk(0, NONE), 24);
        Check.due("1 2 4 8 16 32 64 99", Edge.reads(0, STEEP).talk(0, NONE), 472);
        Check.due("5 99 1 1 1 1 1 1", Edge.reads(0, "weight 0 5;weight 1 99;").talk(0, NONE), 137);
        Check.due("1 1 1 1 1 1 1 2", Edge.reads(0, "weight 7 2;").talk(0, NONE), 27);
        Check.due("1 1 1 1 1 1 1 5", Edge.reads(0, "weight 7 5;").talk(0, NONE), 32);
        Check.due("99 each", Edge.reads(0, LIGHT.replace(" 0;", " 99;")).talk(0, NONE), 8 * 3 * 99);
    }

    private static void trees() {
        TwoEchoes steep = Edge.reads(0, STEEP);
        Edge.each("1 2 4 8 16 32 64 99, TREE of", n -> steep.talk(0, n), 3, 678, 4, 530, 5, 494, 6, 477, 7, 472);
        TwoEchoes fib = Edge.reads(0, "weight 2 2;weight 3 3;weight 4 5;weight 5 8;weight 6 13;weight 7 21;");
        Edge.each("1 1 2 3 5 8 13 21, TREE of", n -> fib.talk(0, n), 3, 162, 4, 135, 5, 134, 6, 133, 7, 132);
    }

    private static void talk() {
        TwoEchoes x = Edge.reads(0, STEEP);
        Check.due("n NONE", x.talk(0, NONE), 472);
        Check.due("n 3", x.talk(0, 3), 678);
        Check.due("n 7", x.talk(0, 7), 472);
    }

    private static void noSuchTalk() {
        TwoEchoes x = Edge.reads(0, "");
        Edge.same("VALLEY", n -> x.talk(n, NONE), NONE, -1, 1, 2, Edge.LOW, Edge.HIGH);
        Edge.same("VALLEY, TREE of 3", n -> x.talk(n, 3), NONE, -1, 1, 2, Edge.LOW, Edge.HIGH);
        Edge.same("n", n -> x.talk(0, n), NONE, -2, 0, 1, 2, 8, 9, Edge.LOW, Edge.HIGH);
    }

    private static void ringsAre(String valley, int many, int longest, int words) {
        TwoEchoes x = Edge.reads(0, valley);
        Edge.each("rings of " + valley, n -> x.rings(0, n), 0, many, 1, longest, 2, words);
    }

    private static void howManyRings() {
        ringsAre("", 8, 1, 255);
        ringsAre(ONE_RING, 1, 8, 255);
        ringsAre("should 1 0;should 2 0;should 3 0;should 4 0;should 5 0;should 6 0;should 7 0;", 1, 1, 1);
    }

    private static void longestRing() {
        ringsAre("should 0 1;should 1 0;should 2 3;should 3 4;should 4 2;should 5 4;should 6 5;", 3, 3, 0b10011111);
        ringsAre(ONE_RING + "should 7 1;", 1, 7, 0b11111110);
        ringsAre(ONE_RING + "should 7 7;", 1, 1, 0b10000000);
    }

    private static void rings() {
        ringsAre("should 0 1;should 1 0;", 7, 2, 255);
        ringsAre("should 0 1;should 1 2;should 2 1;", 6, 2, 254);
    }

    private static void noSuchRings() {
        TwoEchoes x = Edge.reads(0, "");
        for (int what = 0; what < 3; what++) {
            int asked = what;
            Edge.same("VALLEY", n -> x.rings(n, asked), NONE, -1, 1, 2, Edge.LOW, Edge.HIGH);
        }
        Edge.same("what", n -> x.rings(0, n), NONE, -1, 3, 4, Edge.LOW, Edge.HIGH);
    }

    private static void noughtToSixCalls() {
        TwoEchoes x = Edge.reads(0, "should 0 1;should 2 3;should 4 5;should 6 7;");
        Edge.each("N of a half", n -> x.unsure(0, n, false), 0, 1, 1, 1, 6, 1, -1, NONE, 7, NONE);
        Edge.each("D of a half", n -> x.unsure(0, n, true), 0, 1, 1, 2, 2, 4, 5, 32, 6, 64, -1, NONE, 7, NONE);
    }

    private static void leastTerms() {
        TwoEchoes x = Edge.reads(0,
            "weight 0 4;weight 1 0;weight 2 2;weight 3 0;weight 4 0;weight 5 0;weight 6 0;weight 7 0;should 2 0;");
        Edge.each("N of 4 of 6", n -> x.unsure(0, n, false), 1, 2, 2, 4, 3, 8, 6, 64);
        Edge.each("D of 4 of 6", n -> x.unsure(0, n, true), 1, 3, 2, 9, 3, 27, 6, 729);
        TwoEchoes sure = Edge.reads(0, "weight 0 99;");
        Edge.same("N, sure", n -> sure.unsure(0, n, false), 1, 0, 1, 6);
        Edge.same("D, sure", n -> sure.unsure(0, n, true), 1, 0, 1, 6);
        TwoEchoes never = Edge.reads(0, ONE_RING);
        Edge.each("N, never, but for no call at all", n -> never.unsure(0, n, false), 0, 1, 1, 0, 2, 0, 6, 0);
        Edge.same("D, never", n -> never.unsure(0, n, true), 1, 0, 1, 2, 6);
        TwoEchoes weightless = Edge.reads(0, LIGHT + "weight 1 9;should 1 0;");
        Edge.each("a WORD of WEIGHT 0 is never called", n -> weightless.unsure(0, n, false), 0, 1, 1, 0, 6, 0);
    }

    private static void unsure() {
        TwoEchoes x = Edge.reads(0, LIGHT.replace(" 0;", " 99;") + "weight 7 97;should 7 0;");
        Check.due("N by 6, above 32 bits", x.unsure(0, 6, false), 693L * 693 * 693 * 693 * 693 * 693);
        Check.due("D by 6, above 32 bits", x.unsure(0, 6, true), 790L * 790 * 790 * 790 * 790 * 790);
        Check.due("N by 1", x.unsure(0, 1, false), 693);
        Check.due("D by 1", x.unsure(0, 1, true), 790);
    }

    private static void allWeightsNought() {
        TwoEchoes x = Edge.reads(0, LIGHT);
        Edge.same("N", n -> x.unsure(0, n, false), NONE, 0, 1, 6);
        Edge.same("D", n -> x.unsure(0, n, true), NONE, 0, 1, 6);
    }

    private static void noSuchUnsure() {
        TwoEchoes x = Edge.reads(0, "");
        for (boolean under : new boolean[] {false, true}) {
            Edge.same("VALLEY", n -> x.unsure(n, 1, under), NONE, -1, 1, 2, Edge.LOW, Edge.HIGH);
            Edge.same("n", n -> x.unsure(0, n, under), NONE, -1, 7, 8, Edge.LOW, Edge.HIGH);
        }
    }
}
