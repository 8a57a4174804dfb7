/** Terms 3 and 6 about who hears whom from where: promises 12, 13, 27, 28, 29, 31, 33. */
final class EdgesOfPeople {
    private static final int NONE = TwoEchoes.NONE;
    private static final int WHISPER = 0;
    private static final int SAY = 1;
    private static final int SHOUT = 2;

    private static final String ENDS = "wide 20;seller 0 0;buyer 20 0;";
    private static final String JUDGED = "wide 20;seller 14 0;buyer 17 0;preacher 3 0;fog 10 20;snow 15 30;";
    private static final String ROW = "wide 30;seller 0 0;buyer 6 0;buyer 12 0;preacher 19 0;";

    private EdgesOfPeople() {
    }

    static void run() {
        Edge.test("Terms 3",
            "from how many PLACES of the VALLEY a saying then would be heard by none of these, each at his PLACE",
            EdgesOfPeople::heardByNone);
        Edge.test("Terms 3", "at all (by the VOICE, too)", EdgesOfPeople::byTheVoiceToo);
        Edge.test("Terms 3", "(by the VOICE, too); the least.", EdgesOfPeople::theLeastPlace);
        Edge.test("Terms 3", "the PLACE from which most PEOPLE would hear what the wall that JUDGES gives",
            EdgesOfPeople::mostPeople);
        Edge.test("Terms 3", "gives, of several the least; how many.", EdgesOfPeople::ofSeveralTheLeast);
        Edge.test("Promise 12", "HUSH of PEOPLE (bits): how many PLACES, or (least) the least (NONE: none).",
            EdgesOfPeople::hush);
        Edge.test("Promise 12", "-2: there is none such (of any).", EdgesOfPeople::noSuchHush);
        Edge.test("Promise 13", "CROWD: the PLACE, or (many) how many.", EdgesOfPeople::crowd);
        Edge.test("Promise 13", "NONE: there is none such (of any).", EdgesOfPeople::noSuchCrowd);
        newsOfTerms();
        middleOfTerms();
        matchesOfTerms();
    }

    private static void newsOfTerms() {
        Edge.test("Terms 6", "SPREAD of a PERSON, a RANGE: he says a WORD at minute 0", EdgesOfPeople::alone);
        Edge.test("Terms 6",
            "whoever hears it by a VOICE for the first time says it at once, with that RANGE: how many have said "
            + "it in the end", EdgesOfPeople::saidOn);
        Edge.test("Terms 6", "the minute at which the last one of these did.", EdgesOfPeople::lastMinute);
        Edge.test("Promise 27", "how many, or (minute) the minute.", EdgesOfPeople::spread);
        Edge.test("Promise 27", "NONE: there is none such (of any).", EdgesOfPeople::noSuchSpread);
        Edge.test("Terms 6", "GUARDS of a RANGE: the fewest PEOPLE (bits", EdgesOfPeople::fewestGuards);
        Edge.test("Terms 6",
            "of several the least) such that from each PLACE of the VALLEY the VOICE of a saying comes to one of them.",
            EdgesOfPeople::leastGuards);
        Edge.test("Promise 28", "GUARDS of a RANGE (bits).", EdgesOfPeople::guards);
        Edge.test("Promise 28", "NONE: by none, or there is none such (of either).", EdgesOfPeople::noSuchGuards);
        Edge.test("Terms 6",
            "RELAYED from a PERSON to another one, a RANGE: the fewest sayings, each by a VOICE, from the one to "
            + "the other by way of others", EdgesOfPeople::fewestSayings);
        Edge.test("Terms 6", "(0, if both are one)", EdgesOfPeople::bothAreOne);
        Edge.test("Promise 31", "RELAYED.", EdgesOfPeople::relayed);
        Edge.test("Promise 31", "NONE: by none, or there is none such (of any).", EdgesOfPeople::noSuchRelayed);
    }

    private static void middleOfTerms() {
        Edge.test("Terms 6", "MIDDLE: the PLACE from which it is nearest to all PEOPLE together, of several the least",
            EdgesOfPeople::middle);
        Edge.test("Terms 6", "those PLACES together.", EdgesOfPeople::placesTogether);
        Edge.test("Terms 6",
            "CENTRE: the PLACE from which it is nearest to the furthest of PEOPLE, of several the least",
            EdgesOfPeople::centre);
        Edge.test("Terms 6", "how far that is.", EdgesOfPeople::howFar);
        Edge.test("Promise 29", "What 0: MIDDLE, 1: those together, 2: CENTRE, 3: how far.", EdgesOfPeople::middleWhat);
        Edge.test("Promise 29", "NONE: there is none such, or for another what.", EdgesOfPeople::noSuchMiddle);
    }

    private static void matchesOfTerms() {
        Edge.test("Terms 6", "MATCHED: each SELLER asks BUYERS, the nearest one first (of several the least)",
            EdgesOfPeople::nearestFirst);
        Edge.test("Terms 6", "a BUYER keeps the nearest one of all who asked (of several the least), the others ask on",
            EdgesOfPeople::othersAskOn);
        Edge.test("Promise 33", "MATCHED.", EdgesOfPeople::matched);
        Edge.test("Promise 33", "NONE: with nobody", EdgesOfPeople::withNobody);
        Edge.test("Promise 33", "or there is none such (of either).", EdgesOfPeople::noSuchMatched);
    }

    private static void heardByNone() {
        TwoEchoes x = Edge.reads(0, ENDS);
        Edge.each("a whisper", n -> x.hush(0, n, WHISPER, 0, false), 1, 14, 2, 14, 3, 7);
        Edge.each("a say", n -> x.hush(0, n, SAY, 0, false), 1, 2, 2, 2, 3, 0);
        Edge.each("a shout", n -> x.hush(0, n, SHOUT, 0, false), 1, 0, 2, 0, 3, 0);
        Check.due("by nobody: all PLACES", x.hush(0, 0, SHOUT, 0, false), 21);
    }

    private static void byTheVoiceToo() {
        TwoEchoes x = Edge.reads(0, "wide 20;seller 10 0;");
        Check.due("no wall gives a whisper to 10", x.hush(0, 1, WHISPER, 0, false), 8);
        Check.due("from 3 it is not heard", x.heard(0, 3, 0, WHISPER, 0, 10, 0), NONE);
        TwoEchoes snow = Edge.reads(0, "wide 20;seller 0 0;snow 5 5;");
        Edge.same("in SNOW the VOICE is heard all the same", n -> snow.hush(0, 1, WHISPER, n, false), 14, 4, 5, 6);
    }

    private static void theLeastPlace() {
        TwoEchoes x = Edge.reads(0, ENDS);
        Edge.each("a whisper", n -> x.hush(0, n, WHISPER, 0, true), 0, 0, 1, 7, 2, 0, 3, 7);
        Edge.each("a say", n -> x.hush(0, n, SAY, 0, true), 1, 19, 2, 0, 3, NONE);
        TwoEchoes last = Edge.reads(0, "wide 19;seller 0 0;");
        Check.due("the last PLACE of all", last.hush(0, 1, SAY, 0, true), 19);
        Check.due("it alone", last.hush(0, 1, SAY, 0, false), 1);
    }

    private static void mostPeople() {
        TwoEchoes x = Edge.reads(0, JUDGED);
        Edge.each("the PLACE", n -> x.crowd(0, WHISPER, n, false), 0, 20, 9, 20, 10, 0, 14, 0, 15, 0, 20, 0, 21, 20, 30,
            20, 31, 20);
        Edge.each("how many", n -> x.crowd(0, WHISPER, n, true), 0, 2, 9, 2, 10, 1, 14, 1, 15, 0, 20, 0, 21, 2, 30, 2,
            31, 2);
        Check.due("a say: 14 hears it from 8 on, 17 from 5 on, 3 from 19 on", x.crowd(0, SAY, 0, false), 19);
        Check.due("a say, how many", x.crowd(0, SAY, 0, true), 3);
    }

    private static void ofSeveralTheLeast() {
        TwoEchoes x = Edge.reads(0, JUDGED);
        Check.due("a shout, from everywhere", x.crowd(0, SHOUT, 0, false), 0);
        Check.due("a shout, how many", x.crowd(0, SHOUT, 0, true), 3);
        TwoEchoes one = Edge.reads(0, "wide 20;seller 17 0;");
        Check.due("17 .. 20", one.crowd(0, WHISPER, 0, false), 17);
        Check.due("from 0 not yet, from 1 on", Edge.reads(0, "wide 10;seller 1 0;").crowd(0, SAY, 0, false), 1);
        Check.due("from 0 on", Edge.reads(0, "wide 10;seller 2 0;").crowd(0, SAY, 0, false), 0);
        TwoEchoes nobody = Edge.reads(0, "");
        Check.due("without PEOPLE all PLACES are alike", nobody.crowd(0, SHOUT, 0, false), 0);
        Check.due("without PEOPLE, how many", nobody.crowd(0, SHOUT, 0, true), 0);
        TwoEchoes far = Edge.reads(0, "wide 20;seller 3 0;");
        Check.due("nobody hears it from anywhere", far.crowd(0, WHISPER, 0, false), 0);
        Check.due("nobody, how many", far.crowd(0, WHISPER, 0, true), 0);
    }

    private static void hush() {
        TwoEchoes x = Edge.reads(0, "seller 0 0;".repeat(6));
        Check.due("all six", x.hush(0, 63, WHISPER, 0, false), 6);
        Check.due("all six, the least", x.hush(0, 63, WHISPER, 99, true), 7);
        Check.due("the last of them", x.hush(0, 32, WHISPER, 0, true), 7);
        Check.due("none", x.hush(0, 63, SHOUT, 0, false), 0);
        Check.due("none, the least", x.hush(0, 63, SHOUT, 0, true), NONE);
        Check.due("nobody without PEOPLE", Edge.reads(0, "wide 2;").hush(0, 0, SHOUT, 0, false), 3);
    }

    private static void noSuchHush() {
        TwoEchoes x = Edge.reads(0, ENDS);
        for (boolean least : new boolean[] {false, true}) {
            Edge.same("VALLEY", n -> x.hush(n, 1, WHISPER, 0, least), -2, -1, 1, 2, Edge.LOW, Edge.HIGH);
            Edge.same("PEOPLE", n -> x.hush(0, n, WHISPER, 0, least), -2, -1, 4, 5, 7, 32, 64, Edge.LOW, Edge.HIGH);
            Edge.same("loud", n -> x.hush(0, 1, n, 0, least), -2, -1, 3, Edge.LOW, Edge.HIGH);
            Edge.same("minute", n -> x.hush(0, 1, WHISPER, n, least), -2, -1, 100, Edge.LOW, Edge.HIGH);
        }
        TwoEchoes six = Edge.reads(0, "seller 0 0;".repeat(6));
        Edge.same("a seventh", n -> six.hush(0, n, WHISPER, 0, false), -2, 64, 127, -64);
        TwoEchoes nobody = Edge.reads(0, "");
        Edge.same("without PEOPLE", n -> nobody.hush(0, n, WHISPER, 0, false), -2, 1, 2, -1);
    }

    private static void crowd() {
        TwoEchoes x = Edge.reads(0, "wide 2;seller 2 0;buyer 0 0;fog 99 99;");
        Edge.same("the PLACE, at 0 and 99", n -> x.crowd(0, WHISPER, n, false), 0, 0, 99);
        Edge.same("how many, at 0 and 99", n -> x.crowd(0, WHISPER, n, true), 2, 0, 99);
    }

    private static void noSuchCrowd() {
        TwoEchoes x = Edge.reads(0, JUDGED);
        for (boolean many : new boolean[] {false, true}) {
            Edge.same("VALLEY", n -> x.crowd(n, SHOUT, 0, many), NONE, -1, 1, 2, Edge.LOW, Edge.HIGH);
            Edge.same("loud", n -> x.crowd(0, n, 0, many), NONE, -1, 3, Edge.LOW, Edge.HIGH);
            Edge.same("minute", n -> x.crowd(0, SHOUT, n, many), NONE, -1, 100, Edge.LOW, Edge.HIGH);
        }
    }

    private static void alone() {
        TwoEchoes x = Edge.reads(0, ROW);
        Check.due("he alone", x.spread(0, 3, WHISPER, false), 1);
        Check.due("at minute 0", x.spread(0, 3, WHISPER, true), 0);
        Check.due("one alone in the VALLEY", Edge.reads(0, "preacher 3 0;").spread(0, 0, SHOUT, false), 1);
    }

    private static void saidOn() {
        TwoEchoes x = Edge.reads(0, ROW);
        Edge.each("by whispers", n -> x.spread(0, n, WHISPER, false), 0, 3, 1, 3, 2, 3, 3, 1);
        Edge.each("by says", n -> x.spread(0, n, SAY, false), 0, 4, 1, 4, 2, 4, 3, 4);
        TwoEchoes six = Edge.reads(0, "wide 30;buyer 30 0;buyer 6 0;buyer 24 0;buyer 12 0;buyer 18 0;buyer 0 0;");
        Check.due("from one to the next, against their order", six.spread(0, 5, WHISPER, false), 6);
        TwoEchoes gap = Edge.reads(0, "wide 30;buyer 0 0;buyer 6 0;buyer 13 0;");
        Check.due("7 are too far for a whisper", gap.spread(0, 0, WHISPER, false), 2);
    }

    private static void lastMinute() {
        TwoEchoes x = Edge.reads(0, ROW);
        Edge.each("by whispers", n -> x.spread(0, n, WHISPER, true), 0, 12, 1, 6, 2, 12, 3, 0);
        Edge.each("by says", n -> x.spread(0, n, SAY, true), 0, 19, 1, 13, 2, 12, 3, 19);
        TwoEchoes back = Edge.reads(0, "wide 30;buyer 6 0;buyer 0 0;buyer 12 0;buyer 12 0;");
        Check.due("to both sides", back.spread(0, 0, WHISPER, true), 6);
        TwoEchoes beside = Edge.reads(0, "buyer 6 0;buyer 6 0;buyer 6 0;");
        Check.due("beside him, at once", beside.spread(0, 1, WHISPER, true), 0);
        Check.due("beside him, how many", beside.spread(0, 1, WHISPER, false), 3);
    }

    private static void spread() {
        TwoEchoes x = Edge.reads(0, ENDS);
        Edge.each("how many", n -> x.spread(0, 0, n, false), WHISPER, 1, SAY, 1, SHOUT, 2);
        Edge.each("the minute", n -> x.spread(0, 0, n, true), WHISPER, 0, SAY, 0, SHOUT, 20);
        Check.due("from the other one", x.spread(0, 1, SHOUT, true), 20);
    }

    private static void noSuchSpread() {
        TwoEchoes x = Edge.reads(0, ENDS);
        for (boolean minute : new boolean[] {false, true}) {
            Edge.same("VALLEY", n -> x.spread(n, 0, SHOUT, minute), NONE, -1, 1, 2, Edge.LOW, Edge.HIGH);
            Edge.same("PERSON", n -> x.spread(0, n, SHOUT, minute), NONE, -1, 2, 5, 6, Edge.LOW, Edge.HIGH);
            Edge.same("loud", n -> x.spread(0, 0, n, minute), NONE, -1, 3, Edge.LOW, Edge.HIGH);
        }
        Check.due("without PEOPLE", Edge.reads(0, "").spread(0, 0, SHOUT, false), NONE);
    }

    private static void fewestGuards() {
        Check.due("one of 6 to 6", Edge.reads(0, "seller 6 0;").guards(0, WHISPER), 1);
        Check.due("two, one of 6 short", Edge.reads(0, "wide 13;seller 6 0;buyer 7 0;").guards(0, WHISPER), 3);
        Check.due("one is fewer than two of lesser bits",
            Edge.reads(0, "seller 3 0;seller 9 0;buyer 6 0;").guards(0, WHISPER), 4);
        Check.due("all five", Edge.reads(0, "wide 30;seller 0 0;seller 7 0;seller 15 0;seller 23 0;seller 30 0;")
            .guards(0, WHISPER), 31);
        Check.due("all three", Edge.reads(0, "wide 30;seller 6 0;seller 19 0;seller 24 0;").guards(0, WHISPER), 7);
    }

    private static void leastGuards() {
        Check.due("of several the least", Edge.reads(0, "preacher 0 0;seller 6 0;buyer 6 0;").guards(0, WHISPER), 2);
        Check.due("of several couples the least",
            Edge.reads(0, "wide 25;buyer 6 0;buyer 6 0;buyer 19 0;buyer 19 0;").guards(0, WHISPER), 5);
        Check.due("PLACE 0 is one of them", Edge.reads(0, "wide 12;seller 7 0;").guards(0, WHISPER), NONE);
        Check.due("PLACE WIDE is one of them", Edge.reads(0, "wide 12;seller 5 0;").guards(0, WHISPER), NONE);
        Check.due("a PLACE between two is one of them", Edge.reads(0, "wide 26;buyer 6 0;buyer 20 0;").guards(0,
            WHISPER), NONE);
    }

    private static void guards() {
        TwoEchoes x = Edge.reads(0, "wide 30;seller 0 0;buyer 30 0;preacher 12 0;buyer 18 0;seller 6 0;preacher 24 0;");
        Edge.each("bits", n -> x.guards(0, n), WHISPER, 0b011010, SAY, 0b000100, SHOUT, 0b000001);
    }

    private static void noSuchGuards() {
        TwoEchoes x = Edge.reads(0, ENDS);
        Check.due("by none", x.guards(0, WHISPER), NONE);
        Edge.same("VALLEY", n -> x.guards(n, SHOUT), NONE, -1, 1, 2, Edge.LOW, Edge.HIGH);
        Edge.same("loud", n -> x.guards(0, n), NONE, -1, 3, Edge.LOW, Edge.HIGH);
        Check.due("without PEOPLE", Edge.reads(0, "").guards(0, SHOUT), NONE);
    }

    private static void fewestSayings() {
        TwoEchoes x = Edge.reads(0, ROW);
        Edge.each("by whispers from 0 to", n -> x.relayed(0, 0, n, WHISPER), 1, 1, 2, 2, 3, NONE);
        Edge.each("by says from 0 to", n -> x.relayed(0, 0, n, SAY), 1, 1, 2, 1, 3, 2);
        Edge.each("by whispers to 0 from", n -> x.relayed(0, n, 0, WHISPER), 1, 1, 2, 2, 3, NONE);
        TwoEchoes six = Edge.reads(0, "wide 30;buyer 30 0;buyer 6 0;buyer 24 0;buyer 12 0;buyer 18 0;buyer 0 0;");
        Check.due("by all", six.relayed(0, 5, 0, WHISPER), 5);
        Check.due("by a say and one more", six.relayed(0, 5, 0, SAY), 2);
    }

    private static void bothAreOne() {
        TwoEchoes x = Edge.reads(0, ROW + "seller 0 0;");
        Edge.same("to himself", n -> x.relayed(0, n, n, WHISPER), 0, 0, 1, 2, 3, 4);
        Check.due("another one at the same PLACE", x.relayed(0, 0, 4, WHISPER), 1);
    }

    private static void relayed() {
        TwoEchoes x = Edge.reads(0, ENDS);
        Edge.each("loud", n -> x.relayed(0, 0, 1, n), WHISPER, NONE, SAY, NONE, SHOUT, 1);
    }

    private static void noSuchRelayed() {
        TwoEchoes x = Edge.reads(0, ENDS);
        Check.due("by none", x.relayed(0, 0, 1, SAY), NONE);
        Edge.same("VALLEY", n -> x.relayed(n, 0, 1, SHOUT), NONE, -1, 1, 2, Edge.LOW, Edge.HIGH);
        Edge.same("from", n -> x.relayed(0, n, 1, SHOUT), NONE, -1, 2, 6, Edge.LOW, Edge.HIGH);
        Edge.same("to", n -> x.relayed(0, 1, n, SHOUT), NONE, -1, 2, 6, Edge.LOW, Edge.HIGH);
        Edge.same("both one who is not there", n -> x.relayed(0, n, n, SHOUT), NONE, -1, 2, 6, Edge.LOW, Edge.HIGH);
        Edge.same("loud", n -> x.relayed(0, 0, 1, n), NONE, -1, 3, Edge.LOW, Edge.HIGH);
        Edge.same("loud, to himself", n -> x.relayed(0, 0, 0, n), NONE, -1, 3, Edge.LOW, Edge.HIGH);
    }

    private static void middle() {
        Check.due("3 .. 8 are alike", Edge.reads(0, "seller 8 0;buyer 3 0;").middle(0, 0), 3);
        Check.due("the one between", Edge.reads(0, "seller 0 0;buyer 12 0;preacher 7 0;").middle(0, 0), 7);
        Check.due("at the LEFT wall", Edge.reads(0, "seller 0 0;").middle(0, 0), 0);
        Check.due("beside the LEFT wall", Edge.reads(0, "seller 1 0;").middle(0, 0), 1);
        Check.due("at the RIGHT wall", Edge.reads(0, "wide 30;seller 30 0;").middle(0, 0), 30);
        Check.due("where most are", Edge.reads(0, "seller 12 0;seller 12 0;buyer 0 0;").middle(0, 0), 12);
    }

    private static void placesTogether() {
        Check.due("two", Edge.reads(0, "seller 8 0;buyer 3 0;").middle(0, 1), 5);
        Check.due("three", Edge.reads(0, "seller 0 0;buyer 12 0;preacher 7 0;").middle(0, 1), 12);
        Check.due("one", Edge.reads(0, "seller 5 0;").middle(0, 1), 0);
        Check.due("six", Edge.reads(0, "wide 30;" + "seller 0 0;".repeat(3) + "buyer 30 0;".repeat(3)).middle(0, 1),
            90);
    }

    private static void centre() {
        Check.due("5 and 6 are alike", Edge.reads(0, "seller 8 0;buyer 3 0;").middle(0, 2), 5);
        Check.due("most do not matter", Edge.reads(0, "seller 12 0;seller 12 0;buyer 0 0;").middle(0, 2), 6);
        Check.due("at the LEFT wall", Edge.reads(0, "seller 0 0;buyer 1 0;").middle(0, 2), 0);
        Check.due("beside the LEFT wall", Edge.reads(0, "seller 1 0;").middle(0, 2), 1);
        Check.due("at the RIGHT wall", Edge.reads(0, "wide 30;seller 30 0;").middle(0, 2), 30);
    }

    private static void howFar() {
        Check.due("two", Edge.reads(0, "seller 8 0;buyer 3 0;").middle(0, 3), 3);
        Check.due("from wall to wall", Edge.reads(0, "wide 30;seller 0 0;buyer 30 0;preacher 1 0;").middle(0, 3), 15);
        Check.due("one", Edge.reads(0, "seller 5 0;").middle(0, 3), 0);
    }

    private static void middleWhat() {
        TwoEchoes x = Edge.reads(0, "seller 0 0;buyer 10 0;preacher 7 0;");
        Edge.each("what", n -> x.middle(0, n), 0, 7, 1, 10, 2, 5, 3, 5);
        TwoEchoes nobody = Edge.reads(0, "");
        Edge.same("without PEOPLE all PLACES are alike", n -> nobody.middle(0, n), 0, 0, 1, 2, 3);
    }

    private static void noSuchMiddle() {
        TwoEchoes x = Edge.reads(0, "seller 0 0;");
        for (int what = 0; what < 4; what++) {
            int asked = what;
            Edge.same("VALLEY", n -> x.middle(n, asked), NONE, -1, 1, 2, Edge.LOW, Edge.HIGH);
        }
        Edge.same("what", n -> x.middle(0, n), NONE, -1, 4, 5, Edge.LOW, Edge.HIGH);
    }

    private static void nearestFirst() {
        TwoEchoes near = Edge.reads(0, "seller 5 0;buyer 12 0;buyer 7 0;");
        Edge.each("the nearest one", n -> near.matched(0, n), 0, 2, 1, NONE, 2, 0);
        TwoEchoes even = Edge.reads(0, "seller 5 0;buyer 7 0;buyer 3 0;");
        Edge.each("of two as near the least", n -> even.matched(0, n), 0, 1, 1, 0, 2, NONE);
        TwoEchoes beside = Edge.reads(0, "buyer 4 0;seller 5 0;buyer 5 0;");
        Edge.each("who is beside him", n -> beside.matched(0, n), 0, NONE, 1, 2, 2, 1);
    }

    private static void othersAskOn() {
        TwoEchoes on = Edge.reads(0, "seller 5 0;seller 6 0;buyer 7 0;buyer 12 0;");
        Edge.each("sent on", n -> on.matched(0, n), 0, 3, 1, 2, 2, 1, 3, 0);
        TwoEchoes even = Edge.reads(0, "seller 8 0;seller 4 0;buyer 6 0;buyer 12 0;");
        Edge.each("of two as near the least is kept", n -> even.matched(0, n), 0, 2, 1, 3, 2, 0, 3, 1);
        TwoEchoes kept = Edge.reads(0, "wide 30;seller 12 0;seller 17 0;seller 11 0;buyer 10 0;buyer 16 0;");
        Edge.each("sent on to one who has a nearer one", n -> kept.matched(0, n), 0, NONE, 1, 4, 2, 3, 3, 2, 4, 1);
        TwoEchoes taken = Edge.reads(0, "wide 30;seller 12 0;seller 20 0;seller 11 0;buyer 10 0;buyer 16 0;");
        Edge.each("sent on to one who has one as near", n -> taken.matched(0, n), 0, 4, 1, NONE, 2, 3, 3, 2, 4, 0);
        TwoEchoes chain = Edge.reads(0,
            "wide 30;seller 10 0;seller 11 0;seller 14 0;buyer 12 0;buyer 13 0;buyer 30 0;");
        Edge.each("one after the other", n -> chain.matched(0, n), 0, 5, 1, 3, 2, 4, 3, 1, 4, 2, 5, 0);
    }

    private static void matched() {
        TwoEchoes x = Edge.reads(0, "preacher 5 0;buyer 5 0;seller 5 0;");
        Edge.each("with whom", n -> x.matched(0, n), 0, NONE, 1, 2, 2, 1);
        TwoEchoes first = Edge.reads(0, "buyer 5 0;seller 5 0;");
        Edge.each("the BUYER is the first", n -> first.matched(0, n), 0, 1, 1, 0);
    }

    private static void withNobody() {
        TwoEchoes sellers = Edge.reads(0, "seller 5 0;seller 5 0;preacher 5 0;");
        Edge.same("no BUYERS", n -> sellers.matched(0, n), NONE, 0, 1, 2);
        TwoEchoes buyers = Edge.reads(0, "buyer 5 0;buyer 5 0;preacher 5 0;");
        Edge.same("no SELLERS", n -> buyers.matched(0, n), NONE, 0, 1, 2);
        TwoEchoes five = Edge.reads(0, "seller 0 0;seller 1 0;seller 2 0;seller 3 0;seller 4 0;buyer 12 0;");
        Edge.each("one BUYER of five SELLERS", n -> five.matched(0, n), 0, NONE, 1, NONE, 2, NONE, 3, NONE, 4, 5, 5, 4);
        TwoEchoes one = Edge.reads(0, "buyer 0 0;buyer 1 0;buyer 2 0;buyer 3 0;buyer 4 0;seller 12 0;");
        Edge.each("one SELLER of five BUYERS", n -> one.matched(0, n), 0, NONE, 1, NONE, 2, NONE, 3, NONE, 4, 5, 5, 4);
    }

    private static void noSuchMatched() {
        TwoEchoes x = Edge.reads(0, "buyer 5 0;seller 5 0;");
        Edge.same("VALLEY", n -> x.matched(n, 0), NONE, -1, 1, 2, Edge.LOW, Edge.HIGH);
        Edge.same("PERSON", n -> x.matched(0, n), NONE, -1, 2, 5, 6, Edge.LOW, Edge.HIGH);
    }
}
