/** Promises 12, 13, 27, 28, 29, 31 and 33: hush, crowd, spread, guards, middle, relayed, matched. */
public final class CompanyTest {
    public static void main(String[] args) {
        hush();
        crowd();
        spread();
        guards();
        middle();
        relayed();
        matched();
        Check.end("CompanyTest");
    }

    private static void hush() {
        TwoEchoes x = Check.valley(Check.VALLEY);
        Check.due("of the one at 9", x.hush(0, 4, 0, 0, false), 3);
        Check.due("of the one at 9, the least", x.hush(0, 4, 0, 0, true), 0);
        Check.due("of the one at 0", x.hush(0, 16, 0, 0, false), 4);
        Check.due("of the one at 0, the least", x.hush(0, 16, 0, 99, true), 7);
        Check.due("of both", x.hush(0, 20, 0, 0, false), 0);
        Check.due("of both, the least", x.hush(0, 20, 0, 0, true), -1);
        Check.due("of nobody", x.hush(0, 0, 2, 0, false), 11);
        Check.due("of nobody, the least", x.hush(0, 0, 2, 0, true), 0);
        Check.due("a say", x.hush(0, 1, 1, 0, false), 0);
        TwoEchoes wide = Check.valley("wide 30;seller 0 0;");
        Check.due("a say in 30", wide.hush(0, 1, 1, 0, false), 12);
        Check.due("a say in 30, the least", wide.hush(0, 1, 1, 0, true), 19);
        Check.due("a shout in 30", wide.hush(0, 1, 2, 0, false), 0);
        Check.due("bits of no PERSON", x.hush(0, 32, 0, 0, false), -2);
        Check.due("bits -1", x.hush(0, -1, 0, 0, false), -2);
        Check.due("loud 3", x.hush(0, 1, 3, 0, false), -2);
        Check.due("loud -1", x.hush(0, 1, -1, 0, true), -2);
        Check.due("minute 100", x.hush(0, 1, 0, 100, false), -2);
        Check.due("minute -1", x.hush(0, 1, 0, -1, true), -2);
        Check.due("no VALLEY", x.hush(1, 1, 0, 0, false), -2);
    }

    private static void crowd() {
        TwoEchoes x = Check.valley(Check.VALLEY);
        Check.due("a whisper", x.crowd(0, 0, 0, false), 9);
        Check.due("a whisper, many", x.crowd(0, 0, 0, true), 3);
        Check.due("in a FOG", x.crowd(0, 0, 20, false), 0);
        Check.due("in a FOG, many", x.crowd(0, 0, 20, true), 3);
        Check.due("a say", x.crowd(0, 1, 0, false), 2);
        Check.due("a say, many", x.crowd(0, 1, 0, true), 5);
        Check.due("a shout", x.crowd(0, 2, 0, false), 0);
        Check.due("in SNOW", x.crowd(0, 0, 40, true), 3);
        TwoEchoes both = Check.valley("seller 6 0;fog 1 1;snow 1 1;");
        Check.due("the judge is mute", both.crowd(0, 2, 1, false), 0);
        Check.due("the judge is mute, many", both.crowd(0, 2, 1, true), 0);
        TwoEchoes empty = Check.valley("");
        Check.due("no PEOPLE", empty.crowd(0, 2, 1, false), 0);
        Check.due("no PEOPLE, many", empty.crowd(0, 2, 1, true), 0);
        Check.due("loud 3", x.crowd(0, 3, 0, false), -1);
        Check.due("loud -1", x.crowd(0, -1, 0, false), -1);
        Check.due("minute 100", x.crowd(0, 0, 100, true), -1);
        Check.due("minute -1", x.crowd(0, 0, -1, true), -1);
        Check.due("no VALLEY", x.crowd(-1, 0, 0, true), -1);
    }

    private static void spread() {
        TwoEchoes x = Check.valley(Check.VALLEY);
        Check.due("from 0", x.spread(0, 0, 0, false), 5);
        Check.due("from 0, minute", x.spread(0, 0, 0, true), 7);
        Check.due("from 4", x.spread(0, 4, 0, true), 9);
        TwoEchoes apart = Check.valley("wide 30;seller 0 0;buyer 7 0;buyer 13 0;seller 30 0;");
        Check.due("alone", apart.spread(0, 0, 0, false), 1);
        Check.due("alone, minute", apart.spread(0, 0, 0, true), 0);
        Check.due("two", apart.spread(0, 1, 0, false), 2);
        Check.due("two, minute", apart.spread(0, 1, 0, true), 6);
        Check.due("say", apart.spread(0, 0, 1, false), 4);
        Check.due("say, minute", apart.spread(0, 0, 1, true), 30);
        Check.due("no PERSON", apart.spread(0, 4, 0, false), -1);
        Check.due("no PERSON -1", apart.spread(0, -1, 0, false), -1);
        Check.due("loud 3", apart.spread(0, 0, 3, false), -1);
        Check.due("no VALLEY", apart.spread(1, 0, 0, true), -1);
    }

    private static void guards() {
        TwoEchoes x = Check.valley(Check.VALLEY);
        Check.due("the one at 5", x.guards(0, 0), 2);
        Check.due("a say", x.guards(0, 1), 1);
        TwoEchoes wide = Check.valley("wide 30;seller 6 0;buyer 19 0;preacher 24 0;buyer 18 0;seller 25 0;");
        Check.due("three for a whisper", wide.guards(0, 0), 0b00111);
        Check.due("one for a say", wide.guards(0, 1), 0b01000);
        Check.due("a shout", wide.guards(0, 2), 1);
        TwoEchoes gap = Check.valley("wide 30;seller 6 0;buyer 20 0;preacher 24 0;");
        Check.due("by none", gap.guards(0, 0), -1);
        Check.due("no PEOPLE", Check.valley("").guards(0, 2), -1);
        Check.due("loud 3", x.guards(0, 3), -1);
        Check.due("loud -1", x.guards(0, -1), -1);
        Check.due("no VALLEY", x.guards(1, 0), -1);
    }

    private static void middle() {
        TwoEchoes x = Check.valley(Check.VALLEY);
        Check.due("MIDDLE", x.middle(0, 0), 5);
        Check.due("those together", x.middle(0, 1), 14);
        Check.due("CENTRE", x.middle(0, 2), 4);
        Check.due("how far", x.middle(0, 3), 5);
        TwoEchoes two = Check.valley("seller 3 0;buyer 8 0;");
        Check.due("MIDDLE, the least", two.middle(0, 0), 3);
        Check.due("those together", two.middle(0, 1), 5);
        Check.due("CENTRE, the least", two.middle(0, 2), 5);
        Check.due("how far", two.middle(0, 3), 3);
        TwoEchoes edge = Check.valley("wide 5;seller 5 0;");
        Check.due("MIDDLE at the wall", edge.middle(0, 0), 5);
        Check.due("CENTRE at the wall", edge.middle(0, 2), 5);
        for (int what = 0; what < 4; what++) {
            Check.due("no PEOPLE", Check.valley("").middle(0, what), 0);
        }
        Check.due("what 4", x.middle(0, 4), -1);
        Check.due("what -1", x.middle(0, -1), -1);
        Check.due("no VALLEY", x.middle(1, 0), -1);
    }

    private static void relayed() {
        TwoEchoes x = Check.valley(Check.VALLEY);
        Check.due("itself", x.relayed(0, 3, 3, 0), 0);
        Check.due("near", x.relayed(0, 0, 1, 0), 1);
        Check.due("from 2 to 9", x.relayed(0, 0, 2, 0), 2);
        Check.due("from 2 to 9, a say", x.relayed(0, 0, 2, 1), 1);
        TwoEchoes row = Check.valley("wide 30;seller 0 0;buyer 6 0;buyer 12 0;seller 18 0;preacher 30 0;");
        Check.due("three", row.relayed(0, 0, 3, 0), 3);
        Check.due("three back", row.relayed(0, 3, 0, 0), 3);
        Check.due("by none", row.relayed(0, 0, 4, 0), -1);
        Check.due("two says", row.relayed(0, 0, 4, 1), 2);
        Check.due("a shout", row.relayed(0, 0, 4, 2), 1);
        Check.due("no PERSON", row.relayed(0, 5, 5, 0), -1);
        Check.due("no PERSON -1", row.relayed(0, 0, -1, 0), -1);
        Check.due("loud 3", row.relayed(0, 0, 0, 3), -1);
        Check.due("no VALLEY", row.relayed(1, 0, 0, 0), -1);
    }

    private static void matched() {
        TwoEchoes x = Check.valley(Check.VALLEY);
        int[] due = {2, 3, 0, 1, -1, -1};
        for (int person = 0; person < 6; person++) {
            Check.due("matched(0, " + person + ")", x.matched(0, person), due[person]);
        }
        Check.due("no PERSON", x.matched(0, -1), -1);
        Check.due("no VALLEY", x.matched(1, 0), -1);
        TwoEchoes left = Check.valley("seller 4 0;seller 8 0;buyer 6 0;seller 6 0;");
        Check.due("the nearest of three", left.matched(0, 2), 3);
        Check.due("left over", left.matched(0, 0), -1);
        TwoEchoes tie = Check.valley("seller 8 0;seller 4 0;buyer 6 0;");
        Check.due("the least of two as near", tie.matched(0, 2), 0);
        Check.due("the other one", tie.matched(0, 1), -1);
    }
}
