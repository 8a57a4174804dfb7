/** Terms 2, and what is said and heard: promises 7, 8, 10, 11, 32. */
final class EdgesOfSayings {
    private static final int NONE = TwoEchoes.NONE;
    private static final int WHISPER = 0;
    private static final int SAY = 1;
    private static final int SHOUT = 2;
    private static final int VOICE = 0;
    private static final int LEFT = 1;
    private static final int RIGHT = 2;

    /** WORD 1 is thought about, in FOG and in SNOW, too. */
    private static final String JUDGED = "wide 20;should 1 2;thought 1 5;fog 10 20;snow 30 40;";
    private static final String THREE = "wide 10;seller 2 0;buyer 5 0;preacher 9 0;";

    private EdgesOfSayings() {
    }

    static void run() {
        sayings();
        days();
        promises();
    }

    private static void sayings() {
        Edge.test("Terms 2", "with a RANGE: a whisper 6, a say 18, a shout 99.", EdgesOfSayings::ranges);
        Edge.test("Terms 2", "by the VOICE, as many minutes later as there are PLACES from the one to the other",
            EdgesOfSayings::voice);
        Edge.test("Terms 2", "by the LEFT wall, as many later as it is from the one to that wall and on to the other",
            EdgesOfSayings::leftWall);
        Edge.test("Terms 2", "by the RIGHT wall likewise", EdgesOfSayings::rightWall);
        Edge.test("Terms 2", "each if that way is not longer than RANGE.", EdgesOfSayings::notLonger);
        Edge.test("Terms 2", "One wall ECHOES, it gives back the WORD", EdgesOfSayings::echoes);
        Edge.test("Terms 2", "the other one JUDGES, it gives SHOULD of it, and that THOUGHT of it minutes later still.",
            EdgesOfSayings::judges);
        Edge.test("Terms 2", "The LEFT one ECHOES, the RIGHT one JUDGES", EdgesOfSayings::whichWall);
        Edge.test("Terms 2", "in a FOG (at the minute of the saying) the other way about.", EdgesOfSayings::inFog);
        Edge.test("Terms 2", "In SNOW (at that minute) the LEFT one gives nothing back.", EdgesOfSayings::inSnow);
    }

    private static void days() {
        Edge.test("Terms 2", "A DAY begins at minute 0, all PEOPLE at their PLACES.", EdgesOfSayings::beginning);
        Edge.test("Terms 2", "whisper, say, shout: a PERSON says a WORD where he is", EdgesOfSayings::whereHeIs);
        Edge.test("Terms 2", "it takes no time", EdgesOfSayings::noTime);
        Edge.test("Terms 2", "all others hear its VOICE", EdgesOfSayings::othersHearTheVoice);
        Edge.test("Terms 2", "all, he too, the walls", EdgesOfSayings::allHearTheWalls);
        Edge.test("Terms 2", "each (once by each)", EdgesOfSayings::onceByEach);
        Edge.test("Terms 2", "as if he stayed where he is as it is said.", EdgesOfSayings::asIfHeStayed);
        Edge.test("Terms 2", "walk: he goes to a PLACE (that is there), a minute each", EdgesOfSayings::walking);
        Edge.test("Terms 2", "wait: so many minutes", EdgesOfSayings::waiting);
        Edge.test("Terms 2", "NOW is so much later.", EdgesOfSayings::now);
        Edge.test("Terms 2", "A DEED can't be, if there is no such PERSON", EdgesOfSayings::noSuchPerson);
        Edge.test("Terms 2", "PLACE, or NOW would be above 99.", EdgesOfSayings::aboveNinetyNine);
        Edge.test("Terms 2", "STOP: the first DEED that can't be, else how many there are.", EdgesOfSayings::stops);
        Edge.test("Terms 2", "A STATE is behind the first n DEEDS, n up to STOP", EdgesOfSayings::upToStop);
        Edge.test("Terms 2", "what was heard up to that NOW.", EdgesOfSayings::upToNow);
        Edge.test("Terms 2", "A CLASH: a PERSON and a minute at which he hears two unlike WORDS, or more.",
            EdgesOfSayings::clashes);
    }

    private static void promises() {
        Edge.test("Promise 7",
            "with a RANGE (loud 0 whisper, 1 say, 2 shout), at a minute, 0 .. 99, by the VOICE (by 0), the LEFT (1), "
            + "the RIGHT wall (2), at a PLACE (to): the minute at which it is heard.", EdgesOfSayings::heard);
        Edge.test("Promise 7", "NONE: it is not heard", EdgesOfSayings::notHeard);
        Edge.test("Promise 7", "or there is none such (of any).", EdgesOfSayings::noSuchHeard);
        Edge.test("Promise 8", "The WORD that a wall (1 LEFT, 2 RIGHT) gives of a WORD said at a minute, 0 .. 99.",
            EdgesOfSayings::gives);
        Edge.test("Promise 8", "NONE: nothing", EdgesOfSayings::givesNothing);
        Edge.test("Promise 8", "or there is none such (of any).", EdgesOfSayings::noSuchGives);
        Edge.test("Promise 10", "STOP.", EdgesOfSayings::stopOfDays);
        Edge.test("Promise 10", "NONE: there is none such (of either).", EdgesOfSayings::noSuchStop);
        Edge.test("Promise 11", "Of a STATE, what 0: NOW, 1: how many sayings, 2: CLASHES", EdgesOfSayings::stateWhat);
        Edge.test("Promise 11",
            "3, 4: the minute, the PERSON of the first CLASH (of several at one minute the least PERSON",
            EdgesOfSayings::firstClash);
        Edge.test("Promise 11", "NONE: none), 10 + p: PLACE of a PERSON", EdgesOfSayings::noClash);
        Edge.test("Promise 11", "20 + p: WORDS that he heard (bits), 30 + p: how often he heard one",
            EdgesOfSayings::whatHeHeard);
        Edge.test("Promise 11", "40 + p: the minute at which he heard one first (NONE: none).",
            EdgesOfSayings::heardFirst);
        Edge.test("Promise 11", "-2: there is no such STATE", EdgesOfSayings::noSuchState);
        Edge.test("Promise 11", "or for another what.", EdgesOfSayings::noSuchStateWhat);
        Edge.test("Promise 32", "WEATHER of a minute, 0 .. 99, or (minute NONE) CLEAR.", EdgesOfSayings::weather);
        Edge.test("Promise 32", "NONE: there is none such, or another minute.", EdgesOfSayings::noSuchWeather);
        Edge.test("Terms 6", "WEATHER of a minute: 1 if there is FOG, and 2 if there is SNOW, together",
            EdgesOfSayings::together);
        Edge.test("Terms 6", "CLEAR: the most minutes, of 0 to 99, one behind the other, without either.",
            EdgesOfSayings::clear);
    }

    /** A VALLEY and a DAY, both 0. */
    private static TwoEchoes day(String valley, String day) {
        TwoEchoes x = Edge.reads(0, valley);
        Check.due("DAY " + day, Check.tell(x, 1, day), 0);
        return x;
    }

    private static int stopOf(String valley, String day) {
        return day(valley, day).stop(0, 0);
    }

    private static void ranges() {
        TwoEchoes x = Edge.reads(0, "wide 30;");
        Edge.each("a whisper from 10", n -> x.heard(0, 10, 1, WHISPER, 0, n, VOICE), 3, NONE, 4, 6, 16, 6, 17, NONE);
        Edge.each("a say from 5", n -> x.heard(0, 5, 1, SAY, 0, n, VOICE), 23, 18, 24, NONE);
        Edge.each("a say from 25", n -> x.heard(0, 25, 1, SAY, 0, n, VOICE), 7, 18, 6, NONE);
        Edge.each("a shout from 0", n -> x.heard(0, 0, 1, SHOUT, 0, n, VOICE), 19, 19, 30, 30);
        Check.due("a shout, 60 by the LEFT wall", x.heard(0, 30, 1, SHOUT, 0, 30, LEFT), 60);
        Check.due("a shout, 60 by the RIGHT wall", x.heard(0, 0, 1, SHOUT, 0, 0, RIGHT), 60);
    }

    private static void voice() {
        TwoEchoes x = Edge.reads(0, JUDGED);
        Edge.each("from 7 at minute 3", n -> x.heard(0, 7, 1, SHOUT, 3, n, VOICE), 0, 10, 6, 4, 7, 3, 8, 4, 20, 16);
    }

    private static void leftWall() {
        TwoEchoes x = Edge.reads(0, JUDGED);
        Edge.each("from 7 at minute 3", n -> x.heard(0, 7, 1, SHOUT, 3, n, LEFT), 0, 10, 6, 16, 7, 17, 8, 18, 20, 30);
        Check.due("at the wall at once", x.heard(0, 0, 1, WHISPER, 3, 0, LEFT), 3);
    }

    private static void rightWall() {
        TwoEchoes x = Edge.reads(0, JUDGED);
        Edge.each("from 7 at minute 3", n -> x.heard(0, 7, 0, SHOUT, 3, n, RIGHT), 0, 36, 6, 30, 7, 29, 8, 28, 20, 16);
        Check.due("at the wall at once", x.heard(0, 20, 0, WHISPER, 3, 20, RIGHT), 3);
    }

    /** Minutes of THOUGHT are no part of the way. */
    private static void notLonger() {
        TwoEchoes x = Edge.reads(0, JUDGED);
        Edge.each("a whisper from 2, LEFT", n -> x.heard(0, 2, 1, WHISPER, 0, n, LEFT), 4, 6, 5, NONE);
        Edge.each("a whisper from 18, RIGHT", n -> x.heard(0, 18, 1, WHISPER, 0, n, RIGHT), 16, 11, 15, NONE);
        Edge.each("a say from 9, LEFT", n -> x.heard(0, 9, 1, SAY, 0, n, LEFT), 9, 18, 10, NONE);
        Edge.each("a say from 11, RIGHT", n -> x.heard(0, 11, 1, SAY, 0, n, RIGHT), 11, 23, 10, NONE);
        Edge.each("a whisper from 2 in FOG, LEFT", n -> x.heard(0, 2, 1, WHISPER, 10, n, LEFT), 4, 21, 5, NONE);
        Check.due("the VOICE of the same whisper", x.heard(0, 2, 1, WHISPER, 0, 5, VOICE), 3);
    }

    private static void echoes() {
        TwoEchoes x = Edge.reads(0, "should 0 7;thought 0 9;should 7 0;");
        Edge.same("no THOUGHT", n -> x.heard(0, 2, n, SAY, 0, 3, LEFT), 5, 0, 1, 7);
        Edge.each("the WORD", n -> x.gives(0, n, 0, LEFT), 0, 0, 1, 1, 7, 7);
    }

    private static void judges() {
        TwoEchoes x = Edge.reads(0, "should 0 7;thought 0 9;should 7 0;thought 6 1;");
        Edge.each("SHOULD", n -> x.gives(0, n, 0, RIGHT), 0, 7, 1, 1, 6, 6, 7, 0);
        Edge.each("THOUGHT later", n -> x.heard(0, 10, n, SAY, 0, 9, RIGHT), 0, 14, 1, 5, 6, 6, 7, 5);
        Check.due("beyond minute 99", x.heard(0, 0, 0, SHOUT, 99, 0, RIGHT), 99 + 24 + 9);
    }

    private static void whichWall() {
        TwoEchoes x = Edge.reads(0, JUDGED);
        for (int minute : new int[] {0, 9, 21, 29, 41, 99}) {
            Check.due("LEFT", x.gives(0, 1, minute, LEFT), 1);
            Check.due("RIGHT", x.gives(0, 1, minute, RIGHT), 2);
        }
    }

    private static void inFog() {
        TwoEchoes x = Edge.reads(0, JUDGED);
        Edge.each("LEFT gives", n -> x.gives(0, 1, n, LEFT), 9, 1, 10, 2, 15, 2, 20, 2, 21, 1);
        Edge.each("RIGHT gives", n -> x.gives(0, 1, n, RIGHT), 9, 2, 10, 1, 15, 1, 20, 1, 21, 2);
        Edge.each("LEFT, said at", n -> x.heard(0, 2, 1, SAY, n, 4, LEFT), 9, 15, 10, 21, 20, 31, 21, 27);
        Edge.each("RIGHT, said at", n -> x.heard(0, 18, 1, SAY, n, 18, RIGHT), 9, 18, 10, 14, 20, 24, 21, 30);
        Edge.each("VOICE, said at", n -> x.heard(0, 2, 1, SAY, n, 4, VOICE), 9, 11, 10, 12, 20, 22, 21, 23);
        TwoEchoes two = Edge.reads(0, "should 1 2;fog 10 20;fog 15 30;");
        Edge.each("in two FOGS as in one", n -> two.gives(0, 1, n, LEFT), 9, 1, 12, 2, 17, 2, 30, 2, 31, 1);
    }

    private static void inSnow() {
        TwoEchoes x = Edge.reads(0, JUDGED);
        Edge.each("LEFT gives", n -> x.gives(0, 1, n, LEFT), 29, 1, 30, NONE, 35, NONE, 40, NONE, 41, 1);
        Edge.each("RIGHT gives", n -> x.gives(0, 1, n, RIGHT), 29, 2, 30, 2, 40, 2, 41, 2);
        Edge.each("LEFT, said at", n -> x.heard(0, 2, 1, SAY, n, 4, LEFT), 29, 35, 30, NONE, 40, NONE, 41, 47);
        Edge.each("RIGHT, said at", n -> x.heard(0, 18, 1, SAY, n, 18, RIGHT), 29, 38, 30, 39, 40, 49, 41, 50);
        Edge.each("VOICE, said at", n -> x.heard(0, 2, 1, SAY, n, 4, VOICE), 29, 31, 30, 32, 40, 42, 41, 43);
        TwoEchoes both = Edge.reads(0, "should 1 2;thought 1 5;fog 0 9;snow 5 9;");
        Edge.each("in FOG and SNOW, LEFT", n -> both.gives(0, 1, n, LEFT), 4, 2, 5, NONE, 9, NONE, 10, 1);
        Edge.each("in FOG and SNOW, RIGHT", n -> both.gives(0, 1, n, RIGHT), 4, 1, 5, 1, 9, 1, 10, 2);
        Edge.each("in FOG and SNOW, RIGHT, said at", n -> both.heard(0, 12, 1, SAY, n, 12, RIGHT), 4, 4, 5, 5, 9, 9, 10,
            15);
    }

    private static void beginning() {
        TwoEchoes x = day(THREE, "say 0 1;walk 0 0;wait 9;");
        Edge.each("with no DEED", n -> x.state(0, 0, 0, n), 0, 0, 1, 0, 2, 0, 3, NONE, 4, NONE, 10, 2, 11, 5, 12, 9, 20,
            0, 30, 0, 40, NONE);
        Check.due("later", x.state(0, 0, 3, 10), 0);
        Check.due("it begins anew each time it is asked", x.state(0, 0, 0, 10), 2);
        Check.due("NOW", x.state(0, 0, 0, 0), 0);
    }

    private static void whereHeIs() {
        TwoEchoes x = day(THREE, "walk 0 5;whisper 0 1;");
        Check.due("the other one is there", x.state(0, 0, 2, 41), 3);
        Check.due("the third one is 4 off", x.state(0, 0, 2, 42), NONE);
        TwoEchoes y = day(THREE, "walk 0 5;whisper 0 1;wait 4;");
        Check.due("the third one hears it 4 later", y.state(0, 0, 3, 42), 7);
        TwoEchoes whisper = day(THREE, "whisper 0 1;wait 60;");
        Check.due("a whisper from 2 comes not to 9", whisper.state(0, 0, 2, 32), 0);
        TwoEchoes shout = day("wide 30;seller 0 0;buyer 19 0;", "say 0 1;wait 60;shout 0 1;wait 20;");
        Check.due("a say from 0 comes not to 19", shout.state(0, 0, 2, 31), 0);
        Check.due("a shout does, VOICE and LEFT", shout.state(0, 0, 4, 31), 2);
    }

    private static void noTime() {
        TwoEchoes x = day(THREE, "say 0 1;shout 1 1;whisper 2 1;");
        Edge.same("NOW", n -> x.state(0, 0, n, 0), 0, 0, 1, 2, 3);
        Edge.each("sayings", n -> x.state(0, 0, n, 1), 0, 0, 1, 1, 2, 2, 3, 3);
        Check.due("at minute 99, too", stopOf(THREE, "wait 60;wait 39;say 0 1;shout 1 1;whisper 2 1;"), 5);
    }

    private static void othersHearTheVoice() {
        TwoEchoes x = day("wide 30;seller 15 0;buyer 15 0;preacher 9 0;buyer 22 0;", "whisper 0 1;wait 6;");
        Check.due("he himself does not", x.state(0, 0, 2, 30), 0);
        Check.due("who is beside him does, at once", x.state(0, 0, 1, 31), 1);
        Check.due("who is 6 off does", x.state(0, 0, 2, 32), 1);
        Check.due("at minute 6", x.state(0, 0, 2, 42), 6);
        Check.due("who is 7 off does not", x.state(0, 0, 2, 33), 0);
    }

    private static void allHearTheWalls() {
        TwoEchoes x = day(THREE, "shout 0 3;wait 40;");
        Edge.each("how often", n -> x.state(0, 0, 2, 30 + n), 0, 2, 1, 3, 2, 3);
        Edge.each("first", n -> x.state(0, 0, 2, 40 + n), 0, 4, 1, 3, 2, 7);
        TwoEchoes y = day("wide 5;seller 0 0;buyer 5 0;", "shout 0 1;shout 1 1;");
        Check.due("at the LEFT wall at once", y.state(0, 0, 1, 40), 0);
        Check.due("at the RIGHT wall at once", y.state(0, 0, 2, 41), 0);
    }

    /** At the wall VOICE and echo come at one minute: they are two hearings of one WORD. */
    private static void onceByEach() {
        TwoEchoes x = day("wide 5;seller 0 0;buyer 0 0;", "shout 0 2;wait 9;wait 1;wait 60;");
        Check.due("VOICE and LEFT at once", x.state(0, 0, 1, 31), 2);
        Check.due("LEFT alone, of one's own", x.state(0, 0, 1, 30), 1);
        Check.due("not yet", x.state(0, 0, 2, 31), 2);
        Check.due("and RIGHT", x.state(0, 0, 3, 31), 3);
        Check.due("and never again", x.state(0, 0, 4, 31), 3);
        Check.due("and never again, of one's own", x.state(0, 0, 4, 30), 2);
    }

    private static void asIfHeStayed() {
        TwoEchoes he = day(THREE, "shout 0 3;walk 0 10;wait 60;");
        Check.due("LEFT at 4, as at 2", he.state(0, 0, 3, 40), 4);
        Check.due("and RIGHT at 16", he.state(0, 0, 3, 30), 2);
        Check.due("not at 8 already", he.state(0, 0, 2, 30), 1);
        TwoEchoes other = day(THREE, "shout 0 3;walk 1 10;wait 7;wait 1;");
        Check.due("VOICE at 3, as at 5", other.state(0, 0, 2, 41), 3);
        Check.due("VOICE alone up to 5", other.state(0, 0, 2, 31), 1);
        Check.due("VOICE and LEFT up to 12", other.state(0, 0, 3, 31), 2);
        Check.due("RIGHT at 13", other.state(0, 0, 4, 31), 3);
    }

    private static void walking() {
        TwoEchoes x = day(THREE, "walk 0 10;walk 0 0;walk 0 0;walk 1 5;walk 2 10;");
        Edge.each("NOW", n -> x.state(0, 0, n, 0), 1, 8, 2, 18, 3, 18, 4, 18, 5, 19);
        Edge.each("where he is", n -> x.state(0, 0, n, 10), 1, 10, 2, 0, 3, 0, 5, 0);
        Edge.each("where the third one is", n -> x.state(0, 0, n, 12), 4, 9, 5, 10);
        Check.due("a PLACE that is there", stopOf(THREE, "walk 0 10;"), 1);
        Check.due("a PLACE that is not there", stopOf(THREE, "walk 0 11;"), 0);
        Check.due("a PLACE that is not there, 30", stopOf(THREE, "wait 1;walk 0 30;wait 1;"), 1);
    }

    private static void waiting() {
        TwoEchoes x = day(THREE, "wait 1;wait 60;wait 9;");
        Edge.each("NOW", n -> x.state(0, 0, n, 0), 1, 1, 2, 61, 3, 70);
        Edge.each("where all are", n -> x.state(0, 0, 3, n), 10, 2, 11, 5, 12, 9);
        Check.due("nobody is needed", stopOf("", "wait 1;"), 1);
    }

    private static void now() {
        TwoEchoes x = day(THREE, "wait 5;walk 0 4;say 0 1;wait 3;");
        Edge.each("NOW", n -> x.state(0, 0, n, 0), 0, 0, 1, 5, 2, 7, 3, 7, 4, 10);
        Check.due("what is said then is heard from then on", x.state(0, 0, 4, 41), 8);
    }

    private static void noSuchPerson() {
        for (String deed : new String[] {"whisper # 0;", "say # 0;", "shout # 0;", "walk # 2;"}) {
            for (int person = 0; person < 6; person++) {
                Check.due(deed + " of " + person, stopOf(THREE, "wait 1;" + deed.replace("#", "" + person)),
                    person < 3 ? 2 : 1);
            }
            Check.due(deed + " without PEOPLE", stopOf("", deed.replace("#", "0")), 0);
        }
    }

    private static void aboveNinetyNine() {
        Check.due("wait up to 99", stopOf(THREE, "wait 60;wait 39;"), 2);
        Check.due("wait up to 100", stopOf(THREE, "wait 60;wait 40;"), 1);
        Check.due("NOW 99", day(THREE, "wait 60;wait 39;").state(0, 0, 2, 0), 99);
        Check.due("walk up to 99", stopOf(THREE, "wait 60;wait 31;walk 0 10;"), 3);
        Check.due("walk up to 100", stopOf(THREE, "wait 60;wait 32;walk 0 10;"), 2);
        Check.due("walk to where he is, at 99", stopOf(THREE, "wait 60;wait 39;walk 0 2;"), 3);
        Check.due("walk by one, at 99", stopOf(THREE, "wait 60;wait 39;walk 0 3;"), 2);
        Check.due("a PLACE there", stopOf(THREE, "walk 0 10;"), 1);
        Check.due("no such PLACE", stopOf(THREE, "walk 0 11;"), 0);
    }

    private static void stops() {
        Check.due("no DEEDS", stopOf(THREE, ""), 0);
        Check.due("all", stopOf(THREE, "wait 1;say 0 1;walk 2 3;"), 3);
        Check.due("forty", stopOf(THREE, "say 0 1;".repeat(40)), 40);
        Check.due("the first", stopOf(THREE, "say 3 0;wait 1;"), 0);
        Check.due("the first of two", stopOf(THREE, "wait 1;walk 0 11;say 3 0;wait 1;"), 1);
        Check.due("the last", stopOf(THREE, "wait 1;wait 1;say 3 0;"), 2);
    }

    private static void upToStop() {
        TwoEchoes x = day(THREE, "wait 5;wait 6;say 3 0;wait 7;");
        Edge.each("NOW", n -> x.state(0, 0, n, 0), -1, -2, 0, 0, 1, 5, 2, 11, 3, -2, 4, -2, 5, -2, 41, -2, Edge.LOW, -2,
            Edge.HIGH, -2);
        TwoEchoes all = day(THREE, "wait 5;");
        Edge.each("NOW", n -> all.state(0, 0, n, 0), 0, 0, 1, 5, 2, -2, 40, -2);
        TwoEchoes none = day(THREE, "");
        Edge.each("NOW", n -> none.state(0, 0, n, 0), -1, -2, 0, 0, 1, -2);
    }

    private static void upToNow() {
        for (int minutes = 1; minutes <= 20; minutes++) {
            TwoEchoes x = day(THREE, "shout 0 3;wait " + minutes + ";");
            int often = (minutes >= 3 ? 1 : 0) + (minutes >= 7 ? 1 : 0) + (minutes >= 13 ? 1 : 0);
            Check.due("up to " + minutes, x.state(0, 0, 2, 31), often);
        }
        TwoEchoes last = day(THREE, "wait 60;wait 36;shout 0 3;wait 3;");
        Check.due("at 99", last.state(0, 0, 4, 31), 1);
        Check.due("at 99, first", last.state(0, 0, 4, 41), 99);
        TwoEchoes beyond = day(THREE, "wait 60;wait 37;shout 0 3;wait 2;");
        Check.due("at 100: not any more", beyond.state(0, 0, 4, 31), 0);
    }

    private static void clashes() {
        String valley = "wide 4;seller 2 0;buyer 4 0;should 1 5;";
        TwoEchoes x = day(valley, "shout 0 1;wait 1;wait 1;shout 1 7;wait 2;wait 60;");
        Edge.each("CLASHES", n -> x.state(0, 0, n, 2), 1, 0, 2, 0, 3, 1, 4, 1, 5, 2, 6, 2);
        Check.due("the first at 2", x.state(0, 0, 6, 3), 2);
        Check.due("of PERSON 1", x.state(0, 0, 6, 4), 1);
        TwoEchoes alike = day(valley, "shout 0 2;wait 60;");
        Check.due("two WORDS alike at one minute", alike.state(0, 0, 2, 2), 0);
        Check.due("though heard", alike.state(0, 0, 2, 31), 3);
        TwoEchoes apart = day("wide 4;seller 1 0;should 1 5;", "shout 0 1;wait 60;");
        Check.due("unlike WORDS at 2 and at 6", apart.state(0, 0, 2, 2), 0);
        Check.due("though heard", apart.state(0, 0, 2, 20), 34);
        TwoEchoes two = day("wide 4;seller 2 0;should 1 5;", "shout 0 1;wait 4;wait 1;shout 0 1;wait 4;");
        Check.due("one a minute", two.state(0, 0, 2, 2), 1);
        Check.due("another at another minute", two.state(0, 0, 5, 2), 2);
    }

    private static void heard() {
        TwoEchoes x = Edge.reads(0, Check.VALLEY);
        Edge.each("loud", n -> x.heard(0, 0, 0, n, 0, 7, VOICE), 0, NONE, 1, 7, 2, 7);
        Edge.each("loud, by the RIGHT wall", n -> x.heard(0, 0, 0, n, 0, 0, RIGHT), 0, NONE, 1, NONE, 2, 20);
        Edge.each("minute", n -> x.heard(0, 2, 0, SAY, n, 5, VOICE), 0, 3, 1, 4, 98, 101, 99, 102);
        Edge.each("by", n -> x.heard(0, 2, 0, SAY, 0, 5, n), 0, 3, 1, 7, 2, 13);
        Check.due("from wall to wall", x.heard(0, 0, 0, SHOUT, 0, 10, VOICE), 10);
        Check.due("and back", x.heard(0, 10, 7, SHOUT, 0, 0, VOICE), 10);
    }

    private static void notHeard() {
        TwoEchoes x = Edge.reads(0, Check.VALLEY);
        Check.due("a whisper by the VOICE, 7", x.heard(0, 2, 1, WHISPER, 0, 9, VOICE), NONE);
        Check.due("a whisper by the LEFT wall, 7", x.heard(0, 2, 1, WHISPER, 0, 5, LEFT), NONE);
        Check.due("a whisper by the RIGHT wall, 7", x.heard(0, 8, 1, WHISPER, 0, 5, RIGHT), NONE);
        Check.due("SNOW", x.heard(0, 2, 1, SHOUT, 45, 5, LEFT), NONE);
    }

    private static void noSuchHeard() {
        TwoEchoes x = Edge.reads(0, Check.VALLEY);
        Check.due("all there", x.heard(0, 2, 1, SAY, 0, 5, VOICE), 3);
        Edge.same("VALLEY", n -> x.heard(n, 2, 1, SAY, 0, 5, VOICE), NONE, -1, 1, 2, Edge.LOW, Edge.HIGH);
        Edge.same("from", n -> x.heard(0, n, 1, SHOUT, 0, 5, VOICE), NONE, -1, 11, 30, Edge.LOW, Edge.HIGH);
        Edge.same("WORD", n -> x.heard(0, 2, n, SAY, 0, 5, VOICE), NONE, -1, 8, Edge.LOW, Edge.HIGH);
        Edge.same("loud", n -> x.heard(0, 2, 1, n, 0, 5, VOICE), NONE, -1, 3, Edge.LOW, Edge.HIGH);
        Edge.same("minute", n -> x.heard(0, 2, 1, SAY, n, 5, VOICE), NONE, -1, 100, Edge.LOW, Edge.HIGH);
        Edge.same("to", n -> x.heard(0, 2, 1, SHOUT, 0, n, VOICE), NONE, -1, 11, 30, Edge.LOW, Edge.HIGH);
        Edge.same("by", n -> x.heard(0, 2, 1, SAY, 0, 5, n), NONE, -1, 3, Edge.LOW, Edge.HIGH);
    }

    private static void gives() {
        TwoEchoes x = Edge.reads(0, Check.VALLEY);
        Edge.each("by", n -> x.gives(0, 1, 0, n), 1, 1, 2, 2);
        Edge.each("RIGHT of WORD", n -> x.gives(0, n, 0, RIGHT), 0, 0, 1, 2, 2, 1, 3, 1, 7, 7);
        Edge.each("RIGHT at minute", n -> x.gives(0, 1, n, RIGHT), 0, 2, 19, 2, 20, 1, 30, 1, 31, 2, 99, 2);
    }

    private static void givesNothing() {
        TwoEchoes x = Edge.reads(0, Check.VALLEY);
        Edge.each("LEFT at minute", n -> x.gives(0, 0, n, LEFT), 39, 0, 40, NONE, 50, NONE, 51, 0);
    }

    private static void noSuchGives() {
        TwoEchoes x = Edge.reads(0, Check.VALLEY);
        Edge.same("VALLEY", n -> x.gives(n, 1, 0, LEFT), NONE, -1, 1, 2, Edge.LOW, Edge.HIGH);
        Edge.same("WORD", n -> x.gives(0, n, 0, LEFT), NONE, -1, 8, Edge.LOW, Edge.HIGH);
        Edge.same("WORD, RIGHT", n -> x.gives(0, n, 0, RIGHT), NONE, -1, 8, Edge.LOW, Edge.HIGH);
        Edge.same("minute", n -> x.gives(0, 1, n, LEFT), NONE, -1, 100, Edge.LOW, Edge.HIGH);
        Edge.same("wall", n -> x.gives(0, 1, 0, n), NONE, -1, 0, 3, Edge.LOW, Edge.HIGH);
    }

    private static void stopOfDays() {
        TwoEchoes x = day(THREE, "wait 60;wait 40;");
        Check.tell(x, 1, "say 2 1;say 3 1;");
        Check.tell(x, 0, "");
        Check.due("the first DAY", x.stop(0, 0), 1);
        Check.due("the second DAY", x.stop(0, 1), 1);
        Check.due("the second DAY in another VALLEY", x.stop(1, 1), 0);
        Check.due("the first DAY in another VALLEY", x.stop(1, 0), 1);
    }

    private static void noSuchStop() {
        TwoEchoes x = day(THREE, "wait 1;");
        Edge.same("VALLEY", n -> x.stop(n, 0), NONE, -1, 1, 2, Edge.LOW, Edge.HIGH);
        Edge.same("DAY", n -> x.stop(0, n), NONE, -1, 1, 2, Edge.LOW, Edge.HIGH);
        Check.due("both there", x.stop(0, 0), 1);
    }

    private static void stateWhat() {
        TwoEchoes x = day("wide 4;seller 2 0;should 1 5;", "shout 0 1;wait 9;say 0 2;");
        Edge.each("state", n -> x.state(0, 0, 3, n), 0, 9, 1, 2, 2, 1);
        Edge.each("with nothing done", n -> x.state(0, 0, 0, n), 0, 0, 1, 0, 2, 0);
    }

    private static void firstClash() {
        TwoEchoes x = day("wide 4;seller 2 0;seller 2 0;buyer 2 0;should 1 5;", "shout 2 1;wait 3;wait 1;");
        Edge.each("not yet", n -> x.state(0, 0, 2, n), 2, 0, 3, NONE, 4, NONE);
        Edge.each("three at one minute", n -> x.state(0, 0, 3, n), 2, 3, 3, 4, 4, 0);
        TwoEchoes y = day("wide 4;seller 2 0;buyer 4 0;should 1 5;", "shout 0 1;wait 60;");
        Edge.each("the earlier one of the later PERSON", n -> y.state(0, 0, 2, n), 2, 2, 3, 2, 4, 1);
        TwoEchoes z = day("wide 4;preacher 0 0;seller 2 0;buyer 2 0;should 1 5;", "shout 1 1;wait 60;");
        Edge.each("the least of those who clash", n -> z.state(0, 0, 2, n), 2, 2, 3, 4, 4, 1);
        TwoEchoes atOnce = day("wide 4;seller 4 0;buyer 4 0;should 1 5;", "shout 0 1;");
        Edge.each("at minute 0", n -> atOnce.state(0, 0, 1, n), 2, 1, 3, 0, 4, 1);
    }

    private static void noClash() {
        TwoEchoes x = day(THREE, "shout 0 1;wait 60;");
        Edge.each("no CLASH", n -> x.state(0, 0, 2, n), 2, 0, 3, NONE, 4, NONE);
        Edge.each("PLACES", n -> x.state(0, 0, 2, n), 10, 2, 11, 5, 12, 9);
    }

    private static void whatHeHeard() {
        TwoEchoes x = day("wide 10;should 7 0;seller 2 0;buyer 5 0;", "shout 0 7;wait 60;shout 0 3;wait 20;");
        Edge.each("WORDS", n -> x.state(0, 0, n, 21), 0, 0, 1, 0, 2, 129, 3, 129, 4, 137);
        Edge.each("how often", n -> x.state(0, 0, n, 31), 0, 0, 1, 0, 2, 3, 3, 3, 4, 6);
        Edge.each("WORDS that he himself heard", n -> x.state(0, 0, n, 20), 0, 0, 1, 0, 2, 129, 4, 137);
        Check.tell(x, 1, "wait 60;");
        Check.due("nothing of another DAY", x.state(0, 1, 1, 21), 0);
        TwoEchoes first = day("seller 3 0;buyer 3 0;", "whisper 0 5;");
        Check.due("WORDS heard at minute 0, which is NOW", first.state(0, 0, 1, 21), 32);
        TwoEchoes last = day("wide 30;seller 10 0;buyer 16 0;", "whisper 0 5;wait 5;wait 1;");
        Edge.each("WORDS heard at NOW", n -> last.state(0, 0, n, 21), 1, 0, 2, 0, 3, 32);
        TwoEchoes six = day("wide 4;should 1 5;" + "seller 2 0;".repeat(6), "shout 5 1;wait 4;");
        Edge.each("of six PEOPLE", n -> six.state(0, 0, 2, n), 2, 6, 3, 4, 4, 0, 20, 34, 24, 34, 25, 34, 30, 3, 34, 3,
            35, 2);
    }

    private static void heardFirst() {
        TwoEchoes x = day("wide 10;seller 2 0;buyer 5 0;", "wait 10;shout 0 7;wait 2;wait 1;wait 60;");
        Edge.each("first", n -> x.state(0, 0, n, 41), 0, NONE, 2, NONE, 3, NONE, 4, 13, 5, 13);
        TwoEchoes atOnce = day("seller 3 0;buyer 3 0;", "whisper 0 1;");
        Check.due("at minute 0", atOnce.state(0, 0, 1, 41), 0);
        Check.due("he himself: none", atOnce.state(0, 0, 1, 40), NONE);
        TwoEchoes order = day("wide 30;seller 0 0;buyer 20 0;seller 21 0;", "shout 0 1;wait 5;whisper 2 2;wait 60;");
        Check.due("the later saying comes first", order.state(0, 0, 4, 41), 6);
    }

    private static void noSuchState() {
        TwoEchoes x = day(THREE, "wait 5;say 3 0;");
        Check.due("there is one", x.state(0, 0, 1, 0), 5);
        Edge.same("VALLEY", n -> x.state(n, 0, 1, 0), -2, -1, 1, 2, Edge.LOW, Edge.HIGH);
        Edge.same("DAY", n -> x.state(0, n, 1, 0), -2, -1, 1, 2, Edge.LOW, Edge.HIGH);
        Edge.same("n", n -> x.state(0, 0, n, 0), -2, -1, 2, 3, 40, Edge.LOW, Edge.HIGH);
        Edge.same("n, what 3", n -> x.state(0, 0, n, 3), -2, -1, 2, 3);
    }

    private static void noSuchStateWhat() {
        TwoEchoes x = day(THREE, "wait 5;");
        Edge.same("what", n -> x.state(0, 0, 1, n), -2, -1, -10, -8, 5, 6, 9, 50, 51, 60, 100, Edge.LOW, Edge.HIGH);
        Edge.same("no such PERSON", n -> x.state(0, 0, 1, n), -2, 13, 15, 16, 19, 23, 26, 29, 33, 36, 39, 43, 46, 49);
        TwoEchoes six = day("seller 0 0;".repeat(6), "wait 5;");
        Edge.each("six", n -> six.state(0, 0, 1, n), 15, 0, 16, -2, 25, 0, 26, -2, 35, 0, 36, -2, 45, NONE, 46, -2, 55,
            -2);
        TwoEchoes none = day("", "wait 5;");
        Edge.each("without PEOPLE", n -> none.state(0, 0, 1, n), 0, 5, 1, 0, 2, 0, 3, NONE, 4, NONE, 10, -2, 20, -2, 30,
            -2, 40, -2);
    }

    private static void weather() {
        TwoEchoes x = Edge.reads(0, "fog 0 0;snow 99 99;");
        Edge.each("weather", n -> x.weather(0, n), 0, 1, 1, 0, 98, 0, 99, 2, NONE, 98);
    }

    private static void noSuchWeather() {
        TwoEchoes x = Edge.reads(0, "fog 0 99;");
        Edge.same("VALLEY", n -> x.weather(n, 0), NONE, -1, 1, 2, Edge.LOW, Edge.HIGH);
        Edge.same("VALLEY, CLEAR", n -> x.weather(n, NONE), NONE, -1, 1, 2, Edge.LOW, Edge.HIGH);
        Edge.same("minute", n -> x.weather(0, n), NONE, -2, 100, Edge.LOW, Edge.HIGH);
    }

    private static void together() {
        TwoEchoes x = Edge.reads(0, "fog 10 20;snow 15 25;fog 12 18;snow 16 16;");
        Edge.each("weather", n -> x.weather(0, n), 9, 0, 10, 1, 14, 1, 15, 3, 16, 3, 20, 3, 21, 2, 25, 2, 26, 0);
    }

    private static void clear() {
        Check.due("all", Edge.reads(0, "").weather(0, NONE), 100);
        Check.due("none", Edge.reads(0, "fog 0 49;snow 50 99;").weather(0, NONE), 0);
        Check.due("all but minute 0", Edge.reads(0, "fog 0 0;").weather(0, NONE), 99);
        Check.due("all but minute 99", Edge.reads(0, "snow 99 99;").weather(0, NONE), 99);
        Check.due("40 and 59", Edge.reads(0, "snow 40 40;").weather(0, NONE), 59);
        Check.due("59 and 40", Edge.reads(0, "fog 59 59;").weather(0, NONE), 59);
        Check.due("10, 30, 20", Edge.reads(0, "fog 10 29;snow 60 79;").weather(0, NONE), 30);
        Check.due("one", Edge.reads(0, "fog 0 49;snow 51 99;").weather(0, NONE), 1);
    }
}
