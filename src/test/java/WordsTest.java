/** Promises 14, 18, 25 and 26: chain, talk, rings, unsure. */
public final class WordsTest {
    public static void main(String[] args) {
        chain();
        talk();
        rings();
        unsure();
        Check.end("WordsTest");
    }

    private static void chain() {
        TwoEchoes x = Check.valley(Check.VALLEY);
        int[][] due = {{1, 2, 1}, {1, 1, 2}, {3, 2, 2}, {3, 1, 1}, {2, 3, -1}, {0, 0, 1}, {3, 3, -1}, {0, 1, -1}, {8, 0, -1},
            {-1, 0, -1}, {0, 8, -1}, {0, -1, -1}};
        for (int[] row : due) {
            Check.due("chain(0, " + row[0] + ", " + row[1] + ")", x.chain(0, row[0], row[1]), row[2]);
        }
        Check.due("no VALLEY", x.chain(1, 0, 0), -1);
        TwoEchoes ring = Check.valley("should 0 1;should 1 2;should 2 3;should 3 4;should 4 5;should 5 6;should 6 7;should 7 0;");
        Check.due("all round", ring.chain(0, 5, 5), 8);
        Check.due("back by one", ring.chain(0, 5, 4), 7);
    }

    private static void talk() {
        TwoEchoes x = Check.valley(Check.VALLEY);
        Check.due("TALK", x.talk(0, -1), 38);
        Check.due("TREE of 3", x.talk(0, 3), 42);
        Check.due("TREE of 4", x.talk(0, 4), 38);
        Check.due("TREE of 7", x.talk(0, 7), 38);
        Check.due("n 2", x.talk(0, 2), -1);
        Check.due("n 8", x.talk(0, 8), -1);
        Check.due("n 0", x.talk(0, 0), -1);
        Check.due("n -2", x.talk(0, -2), -1);
        Check.due("no VALLEY", x.talk(1, -1), -1);
        Check.due("all alike", Check.valley("").talk(0, -1), 24);
        // 1 1 2 3 5 8 13 21: a tree as deep as may be
        TwoEchoes deep = Check.valley("weight 2 2;weight 3 3;weight 4 5;weight 5 8;weight 6 13;weight 7 21;");
        Check.due("TALK, deep", deep.talk(0, -1), 132);
        Check.due("TREE of 7, deep", deep.talk(0, 7), 132);
        Check.due("TREE of 3, deep", deep.talk(0, 3), 162);
        TwoEchoes none = Check.valley("weight 0 0;weight 1 0;weight 2 0;weight 3 0;weight 4 0;weight 5 0;weight 6 0;weight 7 9;");
        Check.due("one word alone, the others told all the same", none.talk(0, -1), 9);
        Check.due("TREE of 4, at least 1 answer", none.talk(0, 4), 9);
        Check.due("TREE of 3", none.talk(0, 3), 27);
    }

    private static void rings() {
        TwoEchoes x = Check.valley(Check.VALLEY);
        Check.due("how many", x.rings(0, 0), 6);
        Check.due("the longest", x.rings(0, 1), 2);
        Check.due("WORDS in them", x.rings(0, 2), 247);
        Check.due("what 3", x.rings(0, 3), -1);
        Check.due("what -1", x.rings(0, -1), -1);
        Check.due("no VALLEY", x.rings(1, 0), -1);
        TwoEchoes ring = Check.valley("should 0 4;should 4 2;should 2 0;should 1 3;should 3 1;should 5 0;should 6 5;should 7 7;");
        Check.due("how many", ring.rings(0, 0), 3);
        Check.due("the longest", ring.rings(0, 1), 3);
        Check.due("WORDS in them", ring.rings(0, 2), 0b10011111);
    }

    private static void unsure() {
        TwoEchoes x = Check.valley(Check.VALLEY);
        Check.due("n 0", x.unsure(0, 0, false), 1);
        Check.due("n 0, under", x.unsure(0, 0, true), 1);
        Check.due("n 1", x.unsure(0, 1, false), 9);
        Check.due("n 1, under", x.unsure(0, 1, true), 14);
        Check.due("n 2", x.unsure(0, 2, false), 81);
        Check.due("n 2, under", x.unsure(0, 2, true), 196);
        Check.due("n 6, under", x.unsure(0, 6, true), 7529536);
        Check.due("n 7", x.unsure(0, 7, false), -1);
        Check.due("n -1", x.unsure(0, -1, false), -1);
        Check.due("no VALLEY", x.unsure(1, 0, false), -1);
        Check.due("sure", Check.valley("").unsure(0, 6, true), 1);
        TwoEchoes half = Check.valley("should 0 1;should 2 3;should 4 5;should 6 7;");
        Check.due("half", half.unsure(0, 3, false), 1);
        Check.due("half, under", half.unsure(0, 3, true), 8);
        TwoEchoes never = Check.valley("should 0 1;weight 1 0;weight 2 0;weight 3 0;weight 4 0;weight 5 0;weight 6 0;weight 7 0;");
        Check.due("never", never.unsure(0, 2, false), 0);
        Check.due("never, under", never.unsure(0, 2, true), 1);
        Check.due("no call, never wrong", never.unsure(0, 0, false), 1);
        TwoEchoes none = Check.valley("weight 0 0;weight 1 0;weight 2 0;weight 3 0;weight 4 0;weight 5 0;weight 6 0;weight 7 0;");
        Check.due("all WEIGHTS 0", none.unsure(0, 0, false), -1);
        TwoEchoes great = Check.valley("weight 0 99;weight 1 99;weight 2 99;weight 3 99;weight 4 99;weight 5 99;weight 6 99;"
            + "weight 7 95;should 7 0;");
        Check.due("beyond 32 bits", great.unsure(0, 6, true), 788L * 788 * 788 * 788 * 788 * 788);
        Check.due("beyond 32 bits, N", great.unsure(0, 6, false), 693L * 693 * 693 * 693 * 693 * 693);
    }
}
