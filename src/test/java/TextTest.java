/** Promises 4, 5 and 34: text, fault, count. */
public final class TextTest {
    public static void main(String[] args) {
        numbersAndSlots();
        refusals();
        tokens();
        brokenOff();
        bytesBehindTheEnd();
        numbersThatCannotBe();
        tooMany();
        placesNotThere();
        firstFaultOfAll();
        Check.end("TextTest");
    }

    private static void numbersAndSlots() {
        String[] texts = {"wide 5;", "wait 3;", "lies 2;", "not 1 2 3;"};
        for (int sort = 0; sort < 4; sort++) {
            TwoEchoes x = new TwoEchoes();
            Check.due("the first", Check.tell(x, sort, texts[sort]), 0);
            Check.due("the second, empty", Check.tell(x, sort, ""), 1);
            for (int other = 0; other < 4; other++) {
                Check.due("count", x.count(other), other == sort ? 2 : 0);
            }
            Check.due("a third", Check.tell(x, sort, texts[sort]), -2);
            Check.due("FAULT of a third", x.fault(0), 0);
            Check.due("the tape of a third is taken", x.end(1), -1);
            Check.feed(x, texts[sort]);
            Check.due("in the place of 1", x.text(sort, 1), 1);
            Check.due("the tape is empty then", x.end(1), -1);
            Check.due("still two", x.count(sort), 2);
        }
        TwoEchoes x = Check.valley("wide 5;");
        Check.feed(x, "wide 7;");
        Check.due("in the place of 0", x.text(0, 0), 0);
        Check.due("WIDE", x.valley(0, 0), 7);
        Check.feed(x, "thought 1 2;");
        Check.due("in the place of 0 again", x.text(0, 0), 0);
        Check.due("nothing of the earlier one is left", x.valley(0, 0), 12);
        Check.feed(x, "wide 99;");
        Check.due("with a FAULT", x.text(0, 0), -1);
        Check.due("the one that was stays", x.valley(0, 21), 2);
        Check.due("the tape is empty after a FAULT", x.end(1), -1);
        Check.due("count(-1)", x.count(-1), -2);
        Check.due("count(4)", x.count(4), -2);
    }

    private static void refusals() {
        int[][] sortAndAt = {
            {4, -1}, {-1, -1}, {4, 0}, {Integer.MAX_VALUE, 0}, {Integer.MIN_VALUE, -1},
            {0, 1}, {0, 2}, {0, -2}, {0, Integer.MAX_VALUE}, {0, Integer.MIN_VALUE},
            {1, 0}, {1, 1}, {1, -2}, {2, 0}, {2, 1}, {2, -2}, {3, 0}, {3, 1}, {3, -2},
        };
        for (int[] pair : sortAndAt) {
            TwoEchoes x = Check.valley("wide 5;");
            refused(x, 0, pair[0], pair[1]);
            Check.due("the VALLEY stays", x.valley(0, 0), 5);
        }
        for (int sort = 0; sort < 4; sort++) {
            TwoEchoes x = new TwoEchoes();
            Check.tell(x, sort, "");
            Check.tell(x, sort, "");
            refused(x, sort, sort, -1);
            refused(x, sort, sort, 2);
            Check.due("still two", x.count(sort), 2);
        }
        TwoEchoes x = new TwoEchoes();
        Check.due("fault(2)", x.fault(2), -1);
        Check.due("fault(-1)", x.fault(-1), -1);
    }

    /** With -2, too, the tape is taken; but no text is read of it, so that no FAULT of it is told. */
    private static void refused(TwoEchoes x, int sortThere, int sort, int at) {
        String call = "text(" + sort + ", " + at + ")";
        Check.feed(x, "x");
        Check.due("a FAULT ahead", x.text(sortThere, 0), -1);
        Check.feed(x, "wide 1; no text of any sort");
        Check.due(call, x.text(sort, at), -2);
        Check.due(call + ": FAULT", x.fault(0), 0);
        Check.due(call + ": its place", x.fault(1), -1);
        Check.due(call + ": the tape is taken", x.end(1), -1);
        Check.due(call + ": feed behind it", x.feed(0, 0, 0, 0, 0), 20);
        Check.due(call + ", fed anew", x.text(sort, at), -2);
        Check.due(call + ", empty", x.text(sort, at), -2);
    }

    private static void tokens() {
        TwoEchoes x = Check.valley(" \n wide12;should 3\n5;\nweight 07 09 ; ");
        Check.due("WIDE", x.valley(0, 0), 12);
        Check.due("SHOULD of 3", x.valley(0, 13), 5);
        Check.due("WEIGHT of 7", x.valley(0, 37), 9);
        Check.valley("   \n ");
        Check.valley("wide 3;wide 4;");
    }

    private static void fails(int sort, String text, int fault, int place) {
        TwoEchoes x = new TwoEchoes();
        Check.due("text " + text, Check.tell(x, sort, text), -1);
        Check.due("FAULT of " + text, x.fault(0), fault);
        Check.due("its place in " + text, x.fault(1), place);
        Check.due("count", x.count(sort), 0);
    }

    private static void brokenOff() {
        fails(0, "wide", 1, 4);
        fails(0, "wide 5", 1, 6);
        fails(0, "wide 5  ", 1, 8);
        fails(0, "wide 5 5;", 1, 7);
        fails(0, "wide ;", 1, 5);
        fails(0, "wide 5;;", 1, 7);
        fails(0, "5 wide;", 1, 0);
        fails(0, " wides 5;", 1, 1);
        fails(0, "wid 5;", 1, 0);
        fails(0, "xide 5;", 1, 0);
        fails(0, "widez 5;", 1, 0);
        fails(0, "Wide 5;", 1, 0);
        fails(0, "wide\t5;", 1, 4);
        fails(0, "wide 5,", 1, 6);
        fails(0, "weight 0 100;", 1, 9);
        fails(0, "weight 0 1 2;", 1, 11);
        fails(0, "say 0 0;", 1, 0);
        fails(0, "wide 5;\nheard 0 0 0;", 1, 8);
        fails(1, "wide 5;", 1, 0);
        fails(1, "shout 0;", 1, 7);
        fails(1, "wait 1 1;", 1, 7);
        fails(1, "gave 0 0;", 1, 0);
        fails(2, "gave 0;", 1, 6);
        fails(2, "lies 0 0;", 1, 7);
        fails(2, "not 0 0 0;", 1, 0);
        fails(3, "heard 0 0;", 1, 9);
        fails(3, "not 0 0 0 0;", 1, 10);
        fails(3, "lies 1;", 1, 0);
    }

    /** What stood behind the end is no part of the text. */
    private static void bytesBehindTheEnd() {
        String[] fed = {"wide 12;", "wides 5;"};
        int[] ends = {6, 4};
        for (int k = 0; k < 2; k++) {
            TwoEchoes x = new TwoEchoes();
            Check.feed(x, fed[k]);
            x.end(ends[k]);
            Check.due("cut off", x.text(0, -1), -1);
            Check.due("FAULT", x.fault(0), 1);
            Check.due("at the end", x.fault(1), ends[k]);
        }
    }

    private static void numbersThatCannotBe() {
        fails(0, "wide 1;", 2, 5);
        fails(0, "wide 31;", 2, 5);
        fails(0, "should 8 0;", 2, 7);
        fails(0, "should 0 8;", 2, 9);
        fails(0, "thought 8 0;", 2, 8);
        fails(0, "thought 0 10;", 2, 10);
        fails(0, "weight 8 0;", 2, 7);
        fails(0, "seller 31 0;", 2, 7);
        fails(0, "buyer 31 0;", 2, 6);
        fails(0, "preacher 31 0;", 2, 9);
        fails(0, "fog 5 4;", 2, 6);
        fails(0, "snow 99 0;", 2, 8);
        fails(1, "whisper 6 0;", 2, 8);
        fails(1, "say 0 8;", 2, 6);
        fails(1, "shout 9 9;", 2, 6);
        fails(1, "walk 6 0;", 2, 5);
        fails(1, "walk 0 31;", 2, 7);
        fails(1, "wait 0;", 2, 5);
        fails(1, "wait 61;", 2, 5);
        fails(2, "gave 8 0;", 2, 5);
        fails(2, "gave 0 8;", 2, 7);
        fails(2, "lies 10;", 2, 5);
        fails(3, "heard 31 0 0;", 2, 6);
        fails(3, "not 0 0 8;", 2, 8);
        Check.valley("wide 2;wide 30;should 7 7;thought 7 9;weight 7 99;seller 30 99;fog 99 99;snow 0 0;");
        TwoEchoes x = new TwoEchoes();
        Check.due("a DAY at its edges", Check.tell(x, 1, "whisper 5 7;walk 5 30;wait 1;wait 60;"), 0);
        Check.due("a LESSON at its edges", Check.tell(x, 2, "gave 7 7;lies 9;"), 0);
        Check.due("a SIGHT at its edges", Check.tell(x, 3, "heard 30 99 7;not 0 0 0;"), 0);
    }

    private static void tooMany() {
        String six = "buyer 0 0;seller 0 0;preacher 0 0;buyer 0 0;seller 0 0;preacher 0 0;";
        Check.valley(six);
        fails(0, six + "buyer 0 0;", 3, six.length());
        fails(0, six + "seller 0 0;", 3, six.length());
        fails(0, six + " preacher 31 0;", 3, six.length() + 1);
        String four = "fog 0 0;snow 0 0;fog 0 0;snow 0 0;";
        Check.valley(four);
        fails(0, four + "fog 5 4;", 3, four.length());
        fails(0, four + "snow 0 0;", 3, four.length());
        String forty = "wait 1;say 0 0;walk 0 0;whisper 0 0;".repeat(10);
        Check.due("40 DEEDS", Check.tell(new TwoEchoes(), 1, forty), 0);
        fails(1, forty + "wait 1;", 3, forty.length());
        String ten = "gave 0 0;".repeat(10);
        Check.due("10 PAIRS", Check.tell(new TwoEchoes(), 2, ten + "lies 1;lies 2;"), 0);
        fails(2, ten + "gave 0 0;", 3, ten.length());
        String eight = "not 0 0 0;heard 0 0 0;".repeat(4);
        Check.due("8 FACTS", Check.tell(new TwoEchoes(), 3, eight), 0);
        fails(3, eight + "not 0 0 0;", 3, eight.length());
    }

    private static void placesNotThere() {
        fails(0, "seller 13 0;", 4, 12);
        fails(0, "seller 13 0; \n", 4, 14);
        fails(0, "wide 20;preacher 20 0;wide 19;", 4, 30);
        Check.valley("preacher 20 0;wide 19;wide 20;");
        Check.valley("seller 12 0;");
    }

    private static void firstFaultOfAll() {
        fails(0, "wide 1;wide x", 1, 12);
        fails(0, "wide 1;seller 31 0;", 2, 5);
        fails(0, "seller 13 0;wide 31;", 2, 17);
        String seven = "buyer 20 0;".repeat(7);
        fails(0, seven, 3, 66);
        fails(0, "fog 3 2;" + seven, 2, 6);
        fails(0, seven + "wide 1;", 3, 66);
        fails(1, "say 9 9;", 2, 4);
    }
}
