/** Terms 1, and what is told: promises 1 to 6, 9, 19, 21, 34, 35, 36. */
final class EdgesOfTexts {
    private static final int NONE = TwoEchoes.NONE;
    private static final int VALLEY = 0;
    private static final int DAY = 1;
    private static final int LESSON = 2;
    private static final int SIGHT = 3;

    private static final String SIX = "seller 0 0;buyer 0 0;preacher 0 0;seller 0 0;buyer 0 0;preacher 0 0;";
    private static final String FOUR = "fog 0 0;snow 0 0;fog 0 0;snow 0 0;";
    private static final String FORTY = "wait 1;say 0 0;walk 0 0;shout 0 0;".repeat(10);
    private static final String TEN = "gave 0 0;".repeat(10);
    private static final String EIGHT = "not 0 0 0;heard 0 0 0;".repeat(4);

    private EdgesOfTexts() {
    }

    static void run() {
        numbersOfTerms();
        textsOfTerms();
        faultsOfTerms();
        promises();
    }

    private static void numbersOfTerms() {
        Edge.test("What it is",
            "An object is used for at most 512 calls after it has been made; what later calls answer is free.",
            EdgesOfTexts::calls);
        Edge.test("Constants", "`NONE = -1`: There is none.", EdgesOfTexts::none);
        Edge.test("Terms 1", "WORDS are 0 .. 7.", EdgesOfTexts::words);
        Edge.test("Terms 1", "A VALLEY is WIDE, 2 .. 30 (12 at first)", EdgesOfTexts::wide);
        Edge.test("Terms 1", "PLACES 0 .. WIDE in a row, the LEFT wall at 0, the RIGHT one at WIDE",
            EdgesOfTexts::places);
        Edge.test("Terms 1", "SHOULD, a WORD (itself at first)", EdgesOfTexts::should);
        Edge.test("Terms 1", "THOUGHT, 0 .. 9 minutes (0)", EdgesOfTexts::thought);
        Edge.test("Terms 1", "WEIGHT, 0 .. 99 (1)", EdgesOfTexts::weight);
        Edge.test("Terms 1", "PEOPLE, at most 6, from 0 on", EdgesOfTexts::people);
        Edge.test("Terms 1", "a KIND, a PLACE, a WISH, 0 .. 99", EdgesOfTexts::wish);
        Edge.test("Terms 1", "FOGS, SNOWS, at most 4 of both together, from 0 on", EdgesOfTexts::skies);
        Edge.test("Terms 1", "from a minute up to one, 0 .. 99", EdgesOfTexts::minutesOfSkies);
        Edge.test("Terms 1", "KINDS: 0 SELLER, 1 BUYER, 2 PREACHER.", EdgesOfTexts::kinds);
        Edge.test("Terms 1", "A DAY has DEEDS, at most 40, from 0 on.", EdgesOfTexts::deeds);
        Edge.test("Terms 1", "A LESSON has LIES, 0 .. 9 (0 at first)", EdgesOfTexts::lies);
        Edge.test("Terms 1", "PAIRS, at most 10, from 0 on", EdgesOfTexts::pairs);
        Edge.test("Terms 1", "A SIGHT has FACTS, at most 8, from 0 on", EdgesOfTexts::facts);
        Edge.test("Terms 1", "at a PLACE, 0 .. 30, at a minute, 0 .. 99, a WORD was heard, or not",
            EdgesOfTexts::factNumbers);
        Edge.test("Terms 1",
            "VALLEYS, at most 2 (sort 0), DAYS, at most 2 (1), LESSONS, at most 2 (2), SIGHTS, at most 2 (3)",
            EdgesOfTexts::atMostTwo);
    }

    private static void textsOfTerms() {
        Edge.test("Terms 1", "THE TAPE has at most 600 bytes.", EdgesOfTexts::tapeIsFull);
        Edge.test("Terms 1", "TOKENS, as long as they go", EdgesOfTexts::asLongAsTheyGo);
        Edge.test("Terms 1", "blanks (10, 32) between", EdgesOfTexts::blanks);
        Edge.test("Terms 1", "words, rows of letters a .. z", EdgesOfTexts::letters);
        Edge.test("Terms 1", "NUMBERS, 1 or 2 digits", EdgesOfTexts::digits);
        Edge.test("Terms 1", "; one byte.", EdgesOfTexts::semicolon);
        Edge.test("Terms 1",
            "A VALLEY's text: {('wide' NUMBER | ('should' | 'thought' | 'weight' | 'seller' | 'buyer' | "
            + "'preacher' | 'fog' | 'snow') NUMBER NUMBER) ';'}", EdgesOfTexts::valleyText);
        Edge.test("Terms 1", "should and so on: a WORD", EdgesOfTexts::wordsOfValley);
        Edge.test("Terms 1", "seller and so on: a PLACE, 0 .. 30, a WISH", EdgesOfTexts::placesOfPeople);
        Edge.test("Terms 1", "fog, snow: from, up to, not ahead of it", EdgesOfTexts::notAhead);
        Edge.test("Terms 1",
            "A DAY's text: {(('whisper' | 'say' | 'shout' | 'walk') NUMBER NUMBER | 'wait' NUMBER) ';'}",
            EdgesOfTexts::dayText);
        Edge.test("Terms 1", "(a PERSON, 0 .. 5; a WORD", EdgesOfTexts::personsOfDeeds);
        Edge.test("Terms 1", "walk: a PLACE, 0 .. 30", EdgesOfTexts::placesOfWalks);
        Edge.test("Terms 1", "wait: minutes, 1 .. 60", EdgesOfTexts::minutesOfWaits);
        Edge.test("Terms 1", "A LESSON's text: {('gave' NUMBER NUMBER | 'lies' NUMBER) ';'}.",
            EdgesOfTexts::lessonText);
        Edge.test("Terms 1",
            "A SIGHT's text: {('heard' | 'not') NUMBER NUMBER NUMBER ';'} (a PLACE, a minute, a WORD).",
            EdgesOfTexts::sightText);
        Edge.test("Terms 1", "Later ones strike", EdgesOfTexts::laterOnesStrike);
        Edge.test("Terms 1", "but PEOPLE, FOGS, SNOWS, DEEDS, PAIRS, FACTS, which are further ones",
            EdgesOfTexts::furtherOnes);
    }

    private static void faultsOfTerms() {
        Edge.test("Terms 1", "with places (a token's first byte", EdgesOfTexts::placeOfToken);
        Edge.test("Terms 1", "the end's)", EdgesOfTexts::placeOfEnd);
        Edge.test("Terms 1", "1 the first byte or token with which no text goes on", EdgesOfTexts::noTextGoesOn);
        Edge.test("Terms 1", "(a longer row of digits is no token)", EdgesOfTexts::longRows);
        Edge.test("Terms 1", "If there is none, the first by place", EdgesOfTexts::firstByPlace);
        Edge.test("Terms 1", "2 a NUMBER that can't be (as above", EdgesOfTexts::numberThatCannotBe);
        Edge.test("Terms 1", "a line with such a NUMBER tells its PERSON, FOG, SNOW, DEED, PAIR, FACT all the same",
            EdgesOfTexts::toldAllTheSame);
        Edge.test("Terms 1", "3 a 7th PERSON", EdgesOfTexts::seventhPerson);
        Edge.test("Terms 1", "a 5th FOG or SNOW", EdgesOfTexts::fifthSky);
        Edge.test("Terms 1", "a 41st DEED", EdgesOfTexts::fortyFirstDeed);
        Edge.test("Terms 1", "an 11th PAIR", EdgesOfTexts::eleventhPair);
        Edge.test("Terms 1", "a 9th FACT, at its first token", EdgesOfTexts::ninthFact);
        Edge.test("Terms 1",
            "If there is none of these, at the end's place, of a VALLEY: 4 a PLACE of a PERSON that is not there.",
            EdgesOfTexts::placeNotThere);
    }

    private static void promises() {
        Edge.test("Promise 1", "No VALLEYS, DAYS, LESSONS, SIGHTS", EdgesOfTexts::newObject);
        Edge.test("Promise 1", "no images.", EdgesOfTexts::noImages);
        Edge.test("Promise 2", "twenty bytes come behind it, of each number the highest first: how many it has.",
            EdgesOfTexts::highestFirst);
        Edge.test("Promise 2", "NONE, and nothing comes, if there would be more than 600.",
            EdgesOfTexts::moreThanSixHundred);
        Edge.test("Promise 3", "The tape has its first n bytes alone: n.", EdgesOfTexts::firstBytesAlone);
        Edge.test("Promise 3", "NONE if it has not so many, or n is below 0.", EdgesOfTexts::notSoMany);
        Edge.test("Promise 4", "The tape is taken (and is empty then)", EdgesOfTexts::tapeIsTaken);
        Edge.test("Promise 4", "a further one (at NONE), or in the place of one: its number.",
            EdgesOfTexts::furtherOrInPlace);
        Edge.test("Promise 4", "as a text of a sort", EdgesOfTexts::onlyThatSort);
        Edge.test("Promise 4", "NONE: a FAULT.", EdgesOfTexts::aFaultTellsNothing);
        Edge.test("Promise 4", "-2: there is none such", EdgesOfTexts::noneSuchToReplace);
        Edge.test("Promise 4", "there are as many as may be", EdgesOfTexts::asManyAsMayBe);
        Edge.test("Promise 4", "or no such sort", EdgesOfTexts::noSuchSort);
        Edge.test("Promise 4", "(no text is read then, FAULT 0)", EdgesOfTexts::noTextIsRead);
        Edge.test("Promise 5", "Of the latest text(), what 0: the FAULT, 0 without, 1: its place, NONE without.",
            EdgesOfTexts::latestText);
        Edge.test("Promise 5", "NONE for another what.", EdgesOfTexts::otherFaultWhat);
        Edge.test("Promise 6", "Of a VALLEY, what 0: WIDE, 1: PEOPLE, 2: FOGS and SNOWS", EdgesOfTexts::valleyWhat);
        Edge.test("Promise 6", "NONE: there is none such (of any), or for another what.",
            EdgesOfTexts::noSuchValleyWhat);
        Edge.test("Promise 9", "How many DEEDS (k NONE, what 0)", EdgesOfTexts::howManyDeeds);
        Edge.test("Promise 9",
            "of DEED k, what 0: 0 whisper, 1 say, 2 shout, 3 walk, 4 wait, 1, 2: its numbers (NONE without).",
            EdgesOfTexts::deedNumbers);
        Edge.test("Promise 9", "-2: there is none such (of either), or for another what.", EdgesOfTexts::noSuchDeed);
        Edge.test("Promise 19", "Of a LESSON, what 0: LIES, 1: how many PAIRS, 10 + k, 20 + k",
            EdgesOfTexts::lessonWhat);
        Edge.test("Promise 19", "NONE: there is none such (of any), or for another what.",
            EdgesOfTexts::noSuchLessonWhat);
        Edge.test("Promise 21", "How many FACTS (k NONE, what 0)", EdgesOfTexts::howManyFacts);
        Edge.test("Promise 21", "of FACT k, what 0: 1 heard, 0 not, 1: PLACE, 2: minute, 3: WORD.",
            EdgesOfTexts::factWhat);
        Edge.test("Promise 21", "-2: there is none such (of either), or for another what.", EdgesOfTexts::noSuchFact);
        Edge.test("Promise 34", "How many there are of a sort.", EdgesOfTexts::countOfSorts);
        Edge.test("Promise 34", "-2 for another one.", EdgesOfTexts::countOfNoSort);
        Edge.test("Promise 35", "is all that is told (the tape, the FAULT, too), as it is now: true",
            EdgesOfTexts::imageOfAll);
        Edge.test("Promise 35", "Image k (0 .. 2)", EdgesOfTexts::threeImages);
        Edge.test("Promise 35", "false for another k.", EdgesOfTexts::noSuchImage);
        Edge.test("Promise 36", "All that is as image k has it: true", EdgesOfTexts::againAsItWas);
        Edge.test("Promise 36", "false if there is none such.", EdgesOfTexts::againOfNone);
    }

    /** The least and the greatest NUMBER are read where '#' stands, those beside them are FAULT 2 there. */
    private static void numberIs(int sort, String line, int least, int greatest) {
        int place = line.indexOf('#');
        Edge.reads(sort, line.replace("#", "" + least));
        Edge.reads(sort, line.replace("#", "" + greatest));
        if (least > 0) {
            Edge.fails(sort, line.replace("#", "" + (least - 1)), 2, place);
            Edge.fails(sort, line.replace("#", "0"), 2, place);
        }
        if (greatest < 99) {
            Edge.fails(sort, line.replace("#", "" + (greatest + 1)), 2, place);
            Edge.fails(sort, line.replace("#", "99"), 2, place);
        }
    }

    private static void calls() {
        TwoEchoes x = new TwoEchoes();
        for (int call = 1; call < 510; call++) {
            Check.due("call " + call, x.end(0), 0);
        }
        Check.due("call 510", x.feed(0x77696465, 0x20372020, 0x3b202020, 0x20202020, 0x20202020), 20);
        Check.due("call 511", x.text(VALLEY, NONE), 0);
        Check.due("call 512", x.valley(0, 0), 7);
    }

    private static void none() {
        Check.due("NONE", TwoEchoes.NONE, -1);
        Check.due("what there is none of", new TwoEchoes().fault(1), TwoEchoes.NONE);
    }

    private static void words() {
        numberIs(VALLEY, "should 0 #;", 0, 7);
        for (String line : new String[] {"whisper 0 #;", "say 0 #;", "shout 0 #;"}) {
            numberIs(DAY, line, 0, 7);
        }
        for (String line : new String[] {"gave # 0;", "gave 0 #;"}) {
            numberIs(LESSON, line, 0, 7);
        }
        for (String line : new String[] {"heard 0 0 #;", "not 0 0 #;"}) {
            numberIs(SIGHT, line, 0, 7);
        }
    }

    private static void wordsOfValley() {
        for (String line : new String[] {"should", "thought", "weight"}) {
            numberIs(VALLEY, line + " # 0;", 0, 7);
        }
        TwoEchoes x = Edge.reads(VALLEY, "should 7 6;thought 7 5;weight 7 4;");
        Edge.each("of the WORD 7", n -> x.valley(0, n), 17, 6, 27, 5, 37, 4, 16, 6, 26, 0, 36, 1);
    }

    private static void wide() {
        TwoEchoes x = Edge.reads(VALLEY, "");
        Check.due("WIDE at first", x.valley(0, 0), 12);
        Check.tell(x, VALLEY, "wide 9;");
        Check.due("an empty text in its place", x.text(VALLEY, 1), 1);
        Check.due("WIDE at first, behind another text", x.valley(1, 0), 12);
        numberIs(VALLEY, "wide #;", 2, 30);
        Check.due("WIDE 2", Edge.reads(VALLEY, "wide 2;").valley(0, 0), 2);
        Check.due("WIDE 30", Edge.reads(VALLEY, "wide 30;").valley(0, 0), 30);
    }

    private static void places() {
        for (int wide : new int[] {2, 12, 30}) {
            TwoEchoes x = Edge.reads(VALLEY, "wide " + wide + ";");
            Check.due("at the LEFT wall", x.heard(0, 0, 1, 0, 5, 0, 1), 5);
            Check.due("at the RIGHT wall", x.heard(0, wide, 1, 0, 5, wide, 2), 5);
            Check.due("from wall to wall", x.heard(0, 0, 1, 2, 5, wide, 0), 5 + wide);
            Edge.same("from", n -> x.heard(0, n, 1, 2, 5, 0, 0), NONE, -1, wide + 1, Edge.LOW, Edge.HIGH);
            Edge.same("to", n -> x.heard(0, 0, 1, 2, 5, n, 0), NONE, -1, wide + 1, Edge.LOW, Edge.HIGH);
        }
    }

    private static void should() {
        TwoEchoes x = Edge.reads(VALLEY, "should 0 7;should 7 0;should 3 3;");
        Edge.each("SHOULD", n -> x.valley(0, n), 10, 7, 11, 1, 12, 2, 13, 3, 14, 4, 15, 5, 16, 6, 17, 0);
        numberIs(VALLEY, "should 0 #;", 0, 7);
    }

    private static void thought() {
        numberIs(VALLEY, "thought 7 #;", 0, 9);
        TwoEchoes x = Edge.reads(VALLEY, "thought 0 9;thought 7 9;thought 3 0;");
        Edge.each("THOUGHT", n -> x.valley(0, n), 20, 9, 21, 0, 22, 0, 23, 0, 24, 0, 25, 0, 26, 0, 27, 9);
        Check.due("a further one", Check.tell(x, VALLEY, ""), 1);
        Edge.same("THOUGHT at first, behind another text", n -> x.valley(1, n), 0, 20, 21, 22, 23, 24, 25, 26, 27);
    }

    private static void weight() {
        numberIs(VALLEY, "weight 7 #;", 0, 99);
        Edge.fails(VALLEY, "weight 7 100;", 1, 9);
        TwoEchoes x = Edge.reads(VALLEY, "weight 0 99;weight 7 0;");
        Edge.each("WEIGHT", n -> x.valley(0, n), 30, 99, 31, 1, 32, 1, 33, 1, 34, 1, 35, 1, 36, 1, 37, 0);
    }

    private static void people() {
        Check.due("none at first", Edge.reads(VALLEY, "").valley(0, 1), 0);
        TwoEchoes x = Edge.reads(VALLEY, "seller 1 10;" + "preacher 0 0;".repeat(4) + "buyer 6 60;");
        Check.due("six", x.valley(0, 1), 6);
        Check.due("PLACE of the first, 0", x.valley(0, 50), 1);
        Check.due("PLACE of the last, 5", x.valley(0, 55), 6);
        Check.due("WISH of the last, 5", x.valley(0, 65), 60);
        Edge.fails(VALLEY, SIX + "seller 0 0;", 3, SIX.length());
    }

    private static void wish() {
        for (String kind : new String[] {"seller", "buyer", "preacher"}) {
            numberIs(VALLEY, kind + " 0 #;", 0, 99);
            TwoEchoes x = Edge.reads(VALLEY, kind + " 0 0;" + kind + " 12 99;");
            Edge.each("PLACE, WISH", n -> x.valley(0, n), 50, 0, 51, 12, 60, 0, 61, 99);
            Edge.fails(VALLEY, kind + " 0 100;", 1, kind.length() + 3);
        }
    }

    private static void skies() {
        Check.due("none at first", Edge.reads(VALLEY, "").valley(0, 2), 0);
        for (String four : new String[] {FOUR, "fog 1 2;".repeat(4), "snow 1 2;".repeat(4),
            "fog 1 2;snow 3 4;snow 5 6;snow 7 8;"}) {
            Check.due("four", Edge.reads(VALLEY, four).valley(0, 2), 4);
            Edge.fails(VALLEY, four + "fog 0 0;", 3, four.length());
            Edge.fails(VALLEY, four + "snow 0 0;", 3, four.length());
        }
        TwoEchoes x = Edge.reads(VALLEY, "snow 1 2;fog 3 4;fog 5 6;snow 7 8;");
        Edge.each("from 0 on", n -> x.valley(0, n), 70, 1, 71, 0, 72, 0, 73, 1, 80, 1, 81, 3, 82, 5, 83, 7, 90, 2, 91,
            4, 92, 6, 93, 8);
    }

    private static void minutesOfSkies() {
        for (String sky : new String[] {"fog", "snow"}) {
            numberIs(VALLEY, sky + " # 99;", 0, 99);
            numberIs(VALLEY, sky + " 0 #;", 0, 99);
            Edge.fails(VALLEY, sky + " 0 100;", 1, sky.length() + 3);
            int bit = sky.equals("fog") ? 1 : 2;
            TwoEchoes all = Edge.reads(VALLEY, sky + " 0 99;");
            Edge.same("from 0 up to 99", n -> all.weather(0, n), bit, 0, 1, 50, 98, 99);
            TwoEchoes some = Edge.reads(VALLEY, sky + " 10 12;");
            Edge.each("from 10 up to 12", n -> some.weather(0, n), 9, 0, 10, bit, 11, bit, 12, bit, 13, 0);
            Check.due("a further one", Check.tell(some, VALLEY, ""), 1);
            Edge.same("none of it in a further one", n -> some.weather(1, n), 0, 9, 10, 11, 12, 13);
            TwoEchoes one = Edge.reads(VALLEY, sky + " 99 99;");
            Edge.each("from 99 up to 99", n -> one.weather(0, n), 98, 0, 99, bit);
        }
    }

    private static void kinds() {
        TwoEchoes x = Edge.reads(VALLEY, "preacher 0 0;seller 0 0;buyer 0 0;");
        Edge.each("KIND", n -> x.valley(0, n), 40, 2, 41, 0, 42, 1, 43, NONE);
    }

    private static void deeds() {
        Check.due("none", Edge.reads(DAY, "").deed(0, NONE, 0), 0);
        TwoEchoes x = Edge.reads(DAY, "wait 7;" + FORTY.substring(7, FORTY.length() - 10) + "shout 5 6;");
        Check.due("forty", x.deed(0, NONE, 0), 40);
        Check.due("the first, 0", x.deed(0, 0, 1), 7);
        Check.due("the last, 39", x.deed(0, 39, 2), 6);
        Check.due("no 40", x.deed(0, 40, 0), -2);
        Edge.fails(DAY, FORTY + "wait 1;", 3, FORTY.length());
    }

    private static void lies() {
        Check.due("LIES at first", Edge.reads(LESSON, "").lesson(0, 0), 0);
        numberIs(LESSON, "lies #;", 0, 9);
        Check.due("LIES 9", Edge.reads(LESSON, "lies 9;").lesson(0, 0), 9);
    }

    private static void pairs() {
        Check.due("none", Edge.reads(LESSON, "").lesson(0, 1), 0);
        TwoEchoes x = Edge.reads(LESSON, "gave 1 2;" + TEN.substring(18) + "gave 5 6;");
        Edge.each("ten", n -> x.lesson(0, n), 1, 10, 10, 1, 20, 2, 19, 5, 29, 6);
        Edge.fails(LESSON, TEN + "gave 0 0;", 3, TEN.length());
        Edge.reads(LESSON, TEN + "lies 3;");
    }

    private static void facts() {
        Check.due("none", Edge.reads(SIGHT, "").fact(0, NONE, 0), 0);
        TwoEchoes x = Edge.reads(SIGHT, "heard 1 2 3;" + "not 0 0 0;".repeat(6) + "heard 4 5 6;");
        Check.due("eight", x.fact(0, NONE, 0), 8);
        Check.due("the first, 0", x.fact(0, 0, 1), 1);
        Check.due("the last, 7", x.fact(0, 7, 3), 6);
        Edge.fails(SIGHT, EIGHT + "heard 0 0 0;", 3, EIGHT.length());
    }

    private static void factNumbers() {
        for (String line : new String[] {"heard", "not"}) {
            numberIs(SIGHT, line + " # 0 0;", 0, 30);
            numberIs(SIGHT, line + " 0 # 0;", 0, 99);
            Edge.fails(SIGHT, line + " 0 100 0;", 1, line.length() + 3);
        }
        TwoEchoes x = Edge.reads(SIGHT, "heard 30 99 7;not 0 0 0;");
        Edge.each("heard", n -> x.fact(0, 0, n), 0, 1, 1, 30, 2, 99, 3, 7);
        Edge.each("not", n -> x.fact(0, 1, n), 0, 0, 1, 0, 2, 0, 3, 0);
    }

    private static void atMostTwo() {
        for (int sort = 0; sort < 4; sort++) {
            TwoEchoes x = new TwoEchoes();
            Check.due("the first", Check.tell(x, sort, ""), 0);
            Check.due("the second", Check.tell(x, sort, ""), 1);
            Check.due("a third", Check.tell(x, sort, ""), -2);
            for (int other = 0; other < 4; other++) {
                Check.due("count of " + other, x.count(other), other == sort ? 2 : 0);
            }
        }
    }

    private static void tapeIsFull() {
        String blanks = " ".repeat(592);
        Check.due("the last of 600 bytes is read", Edge.reads(VALLEY, blanks + "wide 17;").valley(0, 0), 17);
        Edge.fails(VALLEY, blanks + "wide 17 ", 1, 600);
        Edge.fails(VALLEY, blanks + "wide 17:", 1, 599);
        TwoEchoes x = new TwoEchoes();
        Check.feed(x, blanks + "wide 17;");
        Check.due("no more", x.feed(0, 0, 0, 0, 0), NONE);
        Check.due("as it was", x.text(VALLEY, NONE), 0);
        Check.due("WIDE", x.valley(0, 0), 17);
    }

    private static void asLongAsTheyGo() {
        Check.due("no blank is needed", Edge.reads(VALLEY, "wide17;weight1 22;").valley(0, 0), 17);
        Edge.fails(VALLEY, "weight 122;", 1, 7);
        Edge.fails(VALLEY, "weight 12;", 1, 9);
        Edge.fails(VALLEY, "widewide 5;", 1, 0);
        Edge.fails(VALLEY, "wides 5;", 1, 0);
        Edge.fails(SIGHT, "notheard 0 0 0;", 1, 0);
    }

    private static void blanks() {
        TwoEchoes x = Edge.reads(VALLEY, "\n \nwide\n\n17 \n;\n weight 1\n22;  ");
        Check.due("WIDE", x.valley(0, 0), 17);
        Check.due("WEIGHT", x.valley(0, 31), 22);
        Edge.reads(VALLEY, "\n");
        Edge.reads(VALLEY, "  \n ");
        for (int sign : new int[] {0, 9, 11, 12, 13, 31, 33, 127, 128, 138, 160, 255}) {
            Edge.fails(VALLEY, "wide" + (char) sign + "5;", 1, 4);
            Edge.fails(VALLEY, "wide 5;" + (char) sign, 1, 7);
            Edge.fails(VALLEY, (char) sign + "wide 5;", 1, 0);
        }
    }

    private static void letters() {
        Edge.fails(VALLEY, "widez 5;", 1, 0);
        Edge.fails(VALLEY, "widea 5;", 1, 0);
        for (int sign : new int[] {'a' - 1, 'z' + 1, 'A', 'Z', '_', 'a' + 128, 'z' + 128}) {
            Edge.fails(VALLEY, "wide" + (char) sign + " 5;", 1, 4);
        }
        Edge.fails(VALLEY, "WIDE 5;", 1, 0);
        Edge.fails(VALLEY, "Wide 5;", 1, 0);
        Edge.fails(VALLEY, "widE 5;", 1, 0);
    }

    private static void digits() {
        Check.due("1 digit", Edge.reads(VALLEY, "weight 0 0;").valley(0, 30), 0);
        Check.due("1 digit", Edge.reads(VALLEY, "weight 0 9;").valley(0, 30), 9);
        Check.due("2 digits", Edge.reads(VALLEY, "weight 0 09;").valley(0, 30), 9);
        Check.due("2 digits", Edge.reads(VALLEY, "weight 0 90;").valley(0, 30), 90);
        Check.due("2 digits", Edge.reads(VALLEY, "weight 07 00;").valley(0, 37), 0);
        Edge.fails(VALLEY, "weight 0 009;", 1, 9);
        Edge.fails(VALLEY, "weight 0 000;", 1, 9);
        for (int sign : new int[] {'0' - 1, '9' + 1, '-', '+', '0' + 128, '9' + 128}) {
            Edge.fails(VALLEY, "weight 0 " + (char) sign + "5;", 1, 9);
            Edge.fails(VALLEY, "weight 0 5" + (char) sign + ";", 1, 10);
        }
    }

    private static void semicolon() {
        Check.due("no blank is needed", Edge.reads(VALLEY, "wide 5;wide 6;").valley(0, 0), 6);
        Edge.fails(VALLEY, "wide 5;;", 1, 7);
        Edge.fails(VALLEY, "wide 5; ;", 1, 8);
        Edge.fails(VALLEY, ";", 1, 0);
        Edge.fails(VALLEY, "wide 5,", 1, 6);
        Edge.fails(VALLEY, "wide 5" + (char) (';' + 128), 1, 6);
    }

    /** A line with its NUMBERS is read, with one less or more, or without its ';', it is not. */
    private static void lineTakes(int sort, String word, int numbers) {
        String line = word + " 2".repeat(numbers);
        Edge.reads(sort, line + ";");
        Edge.fails(sort, word + " 2".repeat(numbers - 1) + ";", 1, line.length() - 2);
        Edge.fails(sort, line + " 2;", 1, line.length() + 1);
        Edge.fails(sort, line, 1, line.length());
        Edge.fails(sort, line + word, 1, line.length());
        Edge.fails(sort, word + ";", 1, word.length());
        Edge.fails(sort, word + " " + word + ";", 1, word.length() + 1);
        for (int other = 0; other < 4; other++) {
            if (other != sort) {
                Edge.fails(other, line + ";", 1, 0);
            }
        }
    }

    private static void valleyText() {
        Edge.reads(VALLEY, "");
        lineTakes(VALLEY, "wide", 1);
        for (String word : new String[] {"should", "thought", "weight", "seller", "buyer", "preacher", "fog", "snow"}) {
            lineTakes(VALLEY, word, 2);
        }
    }

    private static void placesOfPeople() {
        for (String kind : new String[] {"seller", "buyer", "preacher"}) {
            numberIs(VALLEY, "wide 30;" + kind + " # 0;", 0, 30);
            Check.due("PLACE 30", Edge.reads(VALLEY, "wide 30;" + kind + " 30 0;").valley(0, 50), 30);
        }
    }

    private static void notAhead() {
        for (String sky : new String[] {"fog", "snow"}) {
            int second = sky.length() + 4;
            Edge.reads(VALLEY, sky + " 50 50;");
            Edge.reads(VALLEY, sky + " 50 51;");
            Edge.fails(VALLEY, sky + " 50 49;", 2, second);
            Edge.fails(VALLEY, sky + " 99 98;", 2, second);
            Edge.fails(VALLEY, sky + " 10 9;", 2, second);
        }
    }

    private static void dayText() {
        Edge.reads(DAY, "");
        lineTakes(DAY, "wait", 1);
        for (String word : new String[] {"whisper", "say", "shout", "walk"}) {
            lineTakes(DAY, word, 2);
        }
    }

    private static void personsOfDeeds() {
        for (String word : new String[] {"whisper", "say", "shout", "walk"}) {
            numberIs(DAY, word + " # 0;", 0, 5);
        }
    }

    private static void placesOfWalks() {
        numberIs(DAY, "walk 0 #;", 0, 30);
        Check.due("PLACE 30", Edge.reads(DAY, "walk 0 30;").deed(0, 0, 2), 30);
    }

    private static void minutesOfWaits() {
        numberIs(DAY, "wait #;", 1, 60);
        Check.due("60 minutes", Edge.reads(DAY, "wait 60;").deed(0, 0, 1), 60);
    }

    private static void lessonText() {
        Edge.reads(LESSON, "");
        lineTakes(LESSON, "lies", 1);
        lineTakes(LESSON, "gave", 2);
    }

    private static void sightText() {
        Edge.reads(SIGHT, "");
        lineTakes(SIGHT, "heard", 3);
        lineTakes(SIGHT, "not", 3);
        Edge.fails(SIGHT, "heard 2;", 1, 7);
        Edge.fails(SIGHT, "not 31 0 0;", 2, 4);
        Edge.fails(SIGHT, "not 0 0 8;", 2, 8);
        TwoEchoes x = Edge.reads(SIGHT, "not 30 99 7;");
        Edge.each("a PLACE, a minute, a WORD", n -> x.fact(0, 0, n), 1, 30, 2, 99, 3, 7);
    }

    private static void laterOnesStrike() {
        TwoEchoes x = Edge.reads(VALLEY,
            "wide 5;should 1 2;thought 1 3;weight 1 4;wide 6;should 1 5;thought 1 6;weight 1 7;");
        Edge.each("of a VALLEY", n -> x.valley(0, n), 0, 6, 11, 5, 21, 6, 31, 7);
        Check.due("LIES", Edge.reads(LESSON, "lies 3;lies 0;").lesson(0, 0), 0);
        Edge.fails(VALLEY, "wide 1;wide 6;", 2, 5);
    }

    private static void furtherOnes() {
        TwoEchoes x = Edge.reads(VALLEY, "seller 1 2;seller 1 2;fog 1 2;fog 1 2;snow 1 2;snow 1 2;");
        Edge.each("of a VALLEY", n -> x.valley(0, n), 1, 2, 2, 4, 41, 0, 51, 1, 61, 2, 71, 0, 73, 1, 83, 1, 93, 2);
        Check.due("DEEDS", Edge.reads(DAY, "wait 1;wait 1;").deed(0, NONE, 0), 2);
        Check.due("PAIRS", Edge.reads(LESSON, "gave 1 1;gave 1 2;").lesson(0, 1), 2);
        Check.due("FACTS", Edge.reads(SIGHT, "not 1 1 1;not 1 1 1;").fact(0, NONE, 0), 2);
    }

    private static void placeOfToken() {
        Edge.fails(VALLEY, "  wides 5;", 1, 2);
        Edge.fails(VALLEY, "wide  5;wide \n 31;", 2, 15);
        Edge.fails(VALLEY, SIX + " \n buyer 0 0;", 3, SIX.length() + 3);
        Edge.fails(VALLEY, "wide 5 wide 6;", 1, 7);
        Edge.fails(VALLEY, "should 0 99;", 2, 9);
    }

    private static void placeOfEnd() {
        Edge.fails(VALLEY, "wide", 1, 4);
        Edge.fails(VALLEY, "wide 5", 1, 6);
        Edge.fails(VALLEY, "wide 5 \n ", 1, 9);
        Edge.fails(DAY, "say 0", 1, 5);
        Edge.fails(LESSON, "gave 0 0", 1, 8);
        Edge.fails(SIGHT, "not 0 0 ", 1, 8);
        Edge.fails(VALLEY, "seller 13 0; ", 4, 13);
        TwoEchoes x = new TwoEchoes();
        Check.feed(x, "wide 5;;;;;;;;");
        x.end(5);
        Check.due("cut within a line", x.text(VALLEY, NONE), NONE);
        Check.due("FAULT", x.fault(0), 1);
        Check.due("at the end", x.fault(1), 5);
    }

    private static void noTextGoesOn() {
        String[] lines = {"wide 2;", "should 2 2;", "thought 2 2;", "weight 2 2;", "seller 2 2;", "buyer 2 2;",
            "preacher 2 2;",
            "fog 2 2;", "snow 2 2;", "whisper 2 2;", "say 2 2;", "shout 2 2;", "walk 2 2;", "wait 2;", "gave 2 2;",
                "lies 2;",
            "heard 2 2 2;", "not 2 2 2;"};
        for (int k = 0; k < lines.length; k++) {
            int sort = k < 9 ? VALLEY : k < 14 ? DAY : k < 16 ? LESSON : SIGHT;
            for (int at = 0; at < lines[k].indexOf(' '); at++) {
                Edge.fails(sort, lines[k].substring(0, at) + "x" + lines[k].substring(at + 1), 1, 0);
                Edge.fails(sort, lines[k].substring(0, at) + lines[k].substring(at + 1), 1, 0);
            }
        }
        Edge.fails(VALLEY, "wide $;wide $;", 1, 5);
        Edge.fails(VALLEY, "wide 5 5$", 1, 7);
        Edge.fails(VALLEY, "wide 5 $5", 1, 7);
        Edge.fails(VALLEY, "5", 1, 0);
        Edge.fails(VALLEY, "wide 99;seller 31 0;wide x;", 1, 25);
        Edge.fails(VALLEY, SIX + SIX + "$", 1, 2 * SIX.length());
        Edge.fails(VALLEY, "seller 13 0;wide", 1, 16);
        Edge.fails(DAY, "say 9 9;wait", 1, 12);
        Edge.fails(LESSON, TEN + "gave 9 9;lies lies;", 1, TEN.length() + 14);
        Edge.fails(SIGHT, EIGHT + "not 99 0 9;0", 1, EIGHT.length() + 11);
    }

    private static void longRows() {
        Edge.fails(VALLEY, "wide 005;", 1, 5);
        Edge.fails(VALLEY, "wide 120;", 1, 5);
        Edge.fails(VALLEY, "weight 1 0000000000000000;", 1, 9);
        Edge.fails(VALLEY, "weight 111", 1, 7);
        Edge.fails(VALLEY, "111", 1, 0);
        Edge.fails(VALLEY, "wide 5 111;", 1, 7);
        Edge.fails(DAY, "wait 001;", 1, 5);
    }

    private static void firstByPlace() {
        Edge.fails(VALLEY, "wide 1;should 8 8;", 2, 5);
        Edge.fails(VALLEY, "should 8 8;", 2, 7);
        Edge.fails(VALLEY, "wide 31;" + SIX + "buyer 0 0;", 2, 5);
        Edge.fails(VALLEY, SIX + "buyer 0 0;wide 31;", 3, SIX.length());
        Edge.fails(VALLEY, SIX + FOUR + "fog 0 0;buyer 0 0;", 3, SIX.length() + FOUR.length());
        Edge.fails(DAY, FORTY + "wait 1;wait 0;", 3, FORTY.length());
        Edge.fails(DAY, "wait 0;" + FORTY, 2, 5);
        Edge.fails(LESSON, "lies 10;" + TEN + "gave 0 0;", 2, 5);
        Edge.fails(SIGHT, "not 0 0 8;" + EIGHT, 2, 8);
    }

    private static void numberThatCannotBe() {
        String[] texts = {"wide 31;", "should 0 8;", "thought 0 10;", "weight 8 0;", "seller 31 0;", "buyer 31 0;",
            "preacher 31 0;", "fog 1 0;", "snow 1 0;"};
        int[] places = {5, 9, 10, 7, 7, 6, 9, 6, 7};
        for (int k = 0; k < texts.length; k++) {
            Edge.fails(VALLEY, texts[k], 2, places[k]);
            Edge.fails(VALLEY, "wide 30;" + texts[k] + "wide 30;", 2, 8 + places[k]);
        }
    }

    /** Such a line is the one too many: its first token is ahead of the NUMBER that can't be. */
    private static void toldAllTheSame() {
        Edge.fails(VALLEY, SIX + "seller 31 0;", 3, SIX.length());
        Edge.fails(VALLEY, FOUR + "fog 5 4;", 3, FOUR.length());
        Edge.fails(VALLEY, FOUR + "snow 5 4;", 3, FOUR.length());
        Edge.fails(DAY, FORTY + "say 6 8;", 3, FORTY.length());
        Edge.fails(DAY, FORTY + "wait 0;", 3, FORTY.length());
        Edge.fails(LESSON, TEN + "gave 8 8;", 3, TEN.length());
        Edge.fails(SIGHT, EIGHT + "not 31 0 8;", 3, EIGHT.length());
    }

    private static void seventhPerson() {
        Edge.reads(VALLEY, SIX);
        for (String kind : new String[] {"seller", "buyer", "preacher"}) {
            Edge.reads(VALLEY, (kind + " 0 0;").repeat(6));
            Edge.fails(VALLEY, (kind + " 0 0;").repeat(7), 3, 6 * (kind.length() + 5));
            Edge.fails(VALLEY, SIX + "wide 9;" + kind + " 0 0;", 3, SIX.length() + 7);
        }
        Edge.reads(VALLEY, SIX + FOUR);
    }

    private static void fifthSky() {
        Edge.reads(VALLEY, FOUR + SIX);
        Edge.fails(VALLEY, "fog 0 0;".repeat(5), 3, 32);
        Edge.fails(VALLEY, "snow 0 0;".repeat(5), 3, 36);
        Edge.fails(VALLEY, FOUR + "wide 9;snow 0 0;", 3, FOUR.length() + 7);
    }

    private static void fortyFirstDeed() {
        Edge.reads(DAY, FORTY);
        for (String line : new String[] {"whisper 0 0;", "say 0 0;", "shout 0 0;", "walk 0 0;", "wait 1;"}) {
            Edge.fails(DAY, FORTY + line, 3, FORTY.length());
        }
        Edge.fails(DAY, "wait 1;".repeat(41), 3, 280);
    }

    private static void eleventhPair() {
        Edge.reads(LESSON, "lies 1;" + TEN + "lies 2;");
        Edge.fails(LESSON, TEN + "lies 1;gave 0 0;", 3, TEN.length() + 7);
    }

    private static void ninthFact() {
        Edge.reads(SIGHT, EIGHT);
        Edge.fails(SIGHT, EIGHT + "heard 0 0 0;", 3, EIGHT.length());
        Edge.fails(SIGHT, EIGHT + "not 0 0 0;", 3, EIGHT.length());
    }

    private static void placeNotThere() {
        Edge.reads(VALLEY, "seller 12 0;");
        Edge.fails(VALLEY, "seller 13 0;", 4, 12);
        Edge.fails(VALLEY, "wide 20;buyer 20 0;wide 19;", 4, 27);
        Edge.reads(VALLEY, "wide 19;buyer 20 0;wide 20;");
        Edge.reads(VALLEY, "preacher 30 0;wide 30;");
        Edge.fails(VALLEY, "preacher 30 0;wide 29;\n", 4, 23);
        Edge.fails(VALLEY, "seller 12 0;".repeat(5) + "buyer 13 0;", 4, 71);
        Edge.fails(VALLEY, "seller 13 0;wide 31;", 2, 17);
        Edge.fails(VALLEY, "seller 13 0;".repeat(7), 3, 72);
        Edge.reads(DAY, "walk 0 30;");
        Edge.reads(SIGHT, "heard 30 0 0;");
    }

    private static void newObject() {
        TwoEchoes x = new TwoEchoes();
        Edge.same("count", x::count, 0, 0, 1, 2, 3);
        Check.due("VALLEY", x.valley(0, 0), NONE);
        Check.due("DAY", x.deed(0, NONE, 0), -2);
        Check.due("LESSON", x.lesson(0, 0), NONE);
        Check.due("SIGHT", x.fact(0, NONE, 0), -2);
        Check.due("FAULT", x.fault(0), 0);
        Check.due("its place", x.fault(1), NONE);
        Check.due("the tape is empty", x.end(1), NONE);
        Check.tell(x, VALLEY, "wide 5;");
        Check.due("another new object has none of it", new TwoEchoes().count(VALLEY), 0);
    }

    private static void noImages() {
        TwoEchoes x = new TwoEchoes();
        Check.tell(x, VALLEY, "wide 5;");
        Edge.same("again", k -> x.again(k) ? 1 : 0, 0, 0, 1, 2);
        Check.due("all is as it was", x.valley(0, 0), 5);
    }

    private static void highestFirst() {
        TwoEchoes x = new TwoEchoes();
        Check.due("20 bytes", x.feed(0x77696465, 0x2031373b, 0x74686f75, 0x67687420, 0x3320393b), 20);
        Check.due("20 behind them", x.feed(0x73686f75, 0x6c642030, 0x20363b77, 0x65696768, 0x74342038), 40);
        Check.due("20 behind these", x.feed(0x373b0a0a, 0x20202020, 0x20202020, 0x20202020, 0x2020200a), 60);
        Check.due("text", x.text(VALLEY, NONE), 0);
        Edge.each("wide 17;thought 3 9;should 0 6;weight4 87;", n -> x.valley(0, n), 0, 17, 23, 9, 10, 6, 34, 87);
        Check.due("a byte above 127 is one byte", x.feed(0x20ff2020, 0, 0, 0, 0), 20);
        x.text(VALLEY, NONE);
        Check.due("its place", x.fault(1), 1);
    }

    private static void moreThanSixHundred() {
        TwoEchoes x = new TwoEchoes();
        for (int k = 1; k <= 30; k++) {
            Check.due("feed " + k, x.feed(0x20202020, 0x20202020, 0x20202020, 0x20202020, 0x20202020), 20L * k);
        }
        Check.due("feed to 620", x.feed(0, 0, 0, 0, 0), NONE);
        Check.due("nothing came", x.end(601), NONE);
        Check.due("all that was is there", x.end(600), 600);
        Check.due("end(581)", x.end(581), 581);
        Check.due("feed to 601", x.feed(0, 0, 0, 0, 0), NONE);
        Check.due("nothing came", x.end(582), NONE);
        Check.due("end(580)", x.end(580), 580);
        Check.due("feed to 600", x.feed(0x77696465, 0x2031373b, 0x20202020, 0x20202020, 0x20202020), 600);
        Check.due("what was refused left nothing", x.text(VALLEY, NONE), 0);
        Check.due("WIDE", x.valley(0, 0), 17);
    }

    private static void firstBytesAlone() {
        TwoEchoes x = new TwoEchoes();
        Check.feed(x, "wide 17;wide 18;wide 19;");
        Check.due("all", x.end(24), 24);
        Check.due("the first two", x.end(16), 16);
        Check.due("they alone", x.text(VALLEY, NONE), 0);
        Check.due("WIDE", x.valley(0, 0), 18);
        Check.feed(x, "wide 17;$");
        Check.due("the first line", x.end(8), 8);
        Check.due("what is fed comes behind it", x.feed(0x77696465, 0x2032393b, 0x20202020, 0x20202020, 0x20202020),
            28);
        Check.due("text", x.text(VALLEY, NONE), 1);
        Check.due("WIDE", x.valley(1, 0), 29);
        Check.due("none of an empty tape", x.end(0), 0);
        String[] fed = {"wide 12;", "wide 123;", "wides 5;"};
        int[] ends = {6, 7, 4};
        for (int k = 0; k < 3; k++) {
            Check.feed(x, fed[k]);
            x.end(ends[k]);
            Check.due("cut within a token", x.text(VALLEY, 0), NONE);
            Check.due("at the end", x.fault(1), ends[k]);
        }
    }

    private static void notSoMany() {
        TwoEchoes x = new TwoEchoes();
        Edge.same("end of an empty tape", x::end, NONE, 1, 20, 600, 601, -1, Edge.LOW, Edge.HIGH);
        Check.feed(x, "wide 17;wide 18;wide");
        Edge.same("end of 20 bytes", x::end, NONE, 21, 22, 600, 601, -1, -20, Edge.LOW, Edge.HIGH);
        Check.due("they are all there", x.end(20), 20);
        Check.due("end(16)", x.end(16), 16);
        Edge.same("what was cut off does not come back", x::end, NONE, 17, 20);
        Check.due("text", x.text(VALLEY, NONE), 0);
        Check.due("WIDE", x.valley(0, 0), 18);
    }

    private static void tapeIsTaken() {
        for (int sort = 0; sort < 4; sort++) {
            TwoEchoes x = new TwoEchoes();
            Check.feed(x, "   ");
            Check.due("its number", x.text(sort, NONE), 0);
            Check.due("empty behind a number", x.end(1), NONE);
            Check.feed(x, "$");
            Check.due("a FAULT", x.text(sort, NONE), NONE);
            Check.due("empty behind a FAULT", x.end(1), NONE);
            Check.feed(x, "$");
            Check.due("none such", x.text(sort, 1), -2);
            Check.due("empty behind -2", x.end(1), NONE);
            Check.due("20 bytes then", x.feed(0, 0, 0, 0, 0), 20);
        }
    }

    private static void furtherOrInPlace() {
        String[] texts = {"wide 5;", "wait 5;", "lies 5;", "not 5 5 5;"};
        String[] others = {"wide 6;", "wait 6;", "lies 6;", "not 6 6 6;"};
        for (int sort = 0; sort < 4; sort++) {
            TwoEchoes x = new TwoEchoes();
            Check.due("a further one", Check.tell(x, sort, texts[sort]), 0);
            Check.due("a further one", Check.tell(x, sort, texts[sort]), 1);
            Check.feed(x, others[sort]);
            Check.due("in the place of 1", x.text(sort, 1), 1);
            Check.due("0 is as it was", numberOf(x, sort, 0), 5);
            Check.due("1 is another one", numberOf(x, sort, 1), 6);
            Check.feed(x, others[sort]);
            Check.due("in the place of 0", x.text(sort, 0), 0);
            Check.due("0 is another one", numberOf(x, sort, 0), 6);
            Check.due("still two", x.count(sort), 2);
            Check.due("an empty one in its place", x.text(sort, 0), 0);
            Check.due("nothing is left of it", numberOf(x, sort, 0), new int[] {12, -2, 0, -2}[sort]);
        }
    }

    /** The one NUMBER that the texts above tell. */
    private static int numberOf(TwoEchoes x, int sort, int at) {
        return sort == VALLEY ? x.valley(at, 0) : sort == DAY ? x.deed(at, 0, 1) : sort == LESSON ? x.lesson(at,
            0) : x.fact(at, 0, 1);
    }

    /** A text of one sort, with a FAULT or without, leaves the other sorts and the other texts of its sort as they are. */
    private static void onlyThatSort() {
        String[] texts = {"wide 5;", "wait 5;", "lies 5;", "not 5 5 5;"};
        String[] faults = {"wide 6;$", "wait 6;$", "lies 6;$", "not 6 6 6;$"};
        for (int sort = 0; sort < 4; sort++) {
            TwoEchoes x = new TwoEchoes();
            for (int other = 0; other < 4; other++) {
                Check.tell(x, other, texts[other]);
            }
            for (int other = 0; other < 4; other++) {
                Check.due("a FAULT", Check.tell(x, other, faults[other]), NONE);
            }
            Check.due("an empty one", x.text(sort, 0), 0);
            for (int other = 0; other < 4; other++) {
                int due = other == sort ? new int[] {12, -2, 0, -2}[sort] : 5;
                Check.due("sort " + other + " behind sort " + sort, numberOf(x, other, 0), due);
            }
        }
        TwoEchoes full = Edge.reads(DAY, FORTY);
        Check.due("no DEED counts for LIES", Check.tell(full, LESSON, "lies 1;" + TEN + "lies 2;"), 0);
        Check.due("nor PAIRS for FACTS", Check.tell(full, SIGHT, EIGHT), 0);
        Check.due("nor FACTS for PEOPLE, FOGS, SNOWS", Check.tell(full, VALLEY, SIX + FOUR), 0);
    }

    private static void aFaultTellsNothing() {
        String[] texts = {"wide 5;", "wait 5;", "lies 5;", "not 5 5 5;"};
        String[] faults = {"wide 6;wide 1;", "wait 6;wait 0;", "lies 6;lies 10;", "not 6 6 6;not 6 6 8;"};
        for (int sort = 0; sort < 4; sort++) {
            TwoEchoes x = new TwoEchoes();
            Check.due("a further one", Check.tell(x, sort, faults[sort]), NONE);
            Check.due("count", x.count(sort), 0);
            Check.tell(x, sort, texts[sort]);
            Check.feed(x, faults[sort]);
            Check.due("in the place of one", x.text(sort, 0), NONE);
            Check.due("that one is as it was", numberOf(x, sort, 0), 5);
            Check.due("count", x.count(sort), 1);
            Check.due("an empty one behind it", x.text(sort, NONE), 1);
            Check.due("has nothing of it", numberOf(x, sort, 1), new int[] {12, -2, 0, -2}[sort]);
        }
    }

    private static void noneSuchToReplace() {
        for (int sort = 0; sort < 4; sort++) {
            TwoEchoes x = new TwoEchoes();
            int of = sort;
            Edge.same("at", n -> x.text(of, n), -2, 0, 1, 2, -2, Edge.LOW, Edge.HIGH);
            Check.tell(x, sort, "");
            Edge.same("at, with one", n -> x.text(of, n), -2, 1, 2, -2, Edge.LOW, Edge.HIGH);
            Check.tell(x, sort, "");
            Edge.same("at, with two", n -> x.text(of, n), -2, 2, 3, -2, Edge.LOW, Edge.HIGH);
            Edge.each("at, with two", n -> x.text(of, n), 0, 0, 1, 1);
            Check.due("still two", x.count(sort), 2);
        }
    }

    private static void asManyAsMayBe() {
        String[] texts = {"wide 6;", "wait 6;", "lies 6;", "not 6 6 6;"};
        for (int sort = 0; sort < 4; sort++) {
            TwoEchoes x = new TwoEchoes();
            Check.tell(x, sort, "");
            Check.tell(x, sort, "");
            Check.due("a third", Check.tell(x, sort, texts[sort]), -2);
            Check.due("count", x.count(sort), 2);
            Check.due("0 is as it was", numberOf(x, sort, 0), new int[] {12, -2, 0, -2}[sort]);
            Check.due("1 is as it was", numberOf(x, sort, 1), new int[] {12, -2, 0, -2}[sort]);
            Check.due("another sort may come", Check.tell(x, (sort + 1) % 4, ""), 0);
        }
    }

    private static void noSuchSort() {
        TwoEchoes x = new TwoEchoes();
        for (int sort = 0; sort < 4; sort++) {
            Check.tell(x, sort, "");
        }
        Edge.same("a further one of sort", n -> x.text(n, NONE), -2, -1, 4, 5, Edge.LOW, Edge.HIGH);
        Edge.same("in the place of one of sort", n -> x.text(n, 0), -2, -1, 4, 5, Edge.LOW, Edge.HIGH);
        Edge.same("count", x::count, 1, 0, 1, 2, 3);
    }

    private static void noTextIsRead() {
        int[][] refused = {{VALLEY, 0}, {DAY, 1}, {LESSON, -2}, {SIGHT, NONE}, {4, NONE}, {-1, 0}};
        for (int[] call : refused) {
            TwoEchoes x = new TwoEchoes();
            Check.tell(x, SIGHT, "");
            Check.tell(x, SIGHT, "");
            Check.due("a FAULT ahead", Check.tell(x, VALLEY, "wide"), NONE);
            Check.due("FAULT", x.fault(0), 1);
            Check.feed(x, "wide 1;$");
            Check.due("text(" + call[0] + ", " + call[1] + ")", x.text(call[0], call[1]), -2);
            Check.due("FAULT 0", x.fault(0), 0);
            Check.due("its place", x.fault(1), NONE);
        }
    }

    private static void latestText() {
        TwoEchoes x = new TwoEchoes();
        Check.due("no text yet", x.fault(0), 0);
        Check.due("no text yet, its place", x.fault(1), NONE);
        Check.tell(x, VALLEY, "seller 13 0;");
        Check.due("FAULT 4", x.fault(0), 4);
        Check.due("its place", x.fault(1), 12);
        Check.due("asking changes nothing", x.fault(0), 4);
        Check.tell(x, DAY, "wait 0;");
        Check.due("FAULT 2 of the latest", x.fault(0), 2);
        Check.due("its place", x.fault(1), 5);
        Check.feed(x, "$");
        Check.due("feed is no text", x.fault(0), 2);
        x.text(LESSON, NONE);
        Check.due("FAULT 1 at place 0", x.fault(0), 1);
        Check.due("place 0", x.fault(1), 0);
        Check.tell(x, LESSON, "lies 1;");
        Check.due("without", x.fault(0), 0);
        Check.due("without, its place", x.fault(1), NONE);
    }

    private static void otherFaultWhat() {
        TwoEchoes x = new TwoEchoes();
        Edge.same("fault", x::fault, NONE, 2, 3, -1, Edge.LOW, Edge.HIGH);
        Check.tell(x, VALLEY, "wide 1;");
        Edge.same("fault", x::fault, NONE, 2, 3, -1, Edge.LOW, Edge.HIGH);
    }

    private static void valleyWhat() {
        TwoEchoes x = Edge.reads(VALLEY, "wide 29;should 0 1;should 7 2;thought 0 3;thought 7 4;weight 0 5;weight 7 6;"
            + "buyer 7 8;" + "seller 0 0;".repeat(4) + "preacher 9 10;snow 11 12;fog 0 0;fog 0 0;snow 13 14;");
        Edge.each("valley", n -> x.valley(0, n), 0, 29, 1, 6, 2, 4, 10, 1, 17, 2, 20, 3, 27, 4, 30, 5, 37, 6, 40, 1, 45,
            2, 50, 7,
            55, 9, 60, 8, 65, 10, 70, 1, 71, 0, 73, 1, 80, 11, 83, 13, 90, 12, 93, 14);
        Check.tell(x, VALLEY, "wide 3;");
        Check.due("of the second", x.valley(1, 0), 3);
        Check.due("of the first", x.valley(0, 0), 29);
    }

    private static void noSuchValleyWhat() {
        TwoEchoes x = Edge.reads(VALLEY, "seller 1 2;buyer 3 4;fog 5 6;");
        Edge.same("VALLEY", n -> x.valley(n, 0), NONE, -1, 1, 2, Edge.LOW, Edge.HIGH);
        Edge.same("another what", n -> x.valley(0, n), NONE, -1, -10, -60, 3, 9, 100, 101, 110, 1000, Edge.LOW,
            Edge.HIGH);
        Edge.same("no such WORD", n -> x.valley(0, n), NONE, 18, 19, 28, 29, 38, 39);
        Edge.same("no such PERSON", n -> x.valley(0, n), NONE, 42, 45, 46, 49, 52, 56, 59, 62, 66, 69);
        Edge.same("no such FOG or SNOW", n -> x.valley(0, n), NONE, 71, 74, 79, 81, 84, 89, 91, 94, 99);
        TwoEchoes full = Edge.reads(VALLEY, SIX + FOUR);
        Edge.same("beyond all", n -> full.valley(0, n), NONE, 46, 56, 66, 74, 84, 94);
    }

    private static void howManyDeeds() {
        TwoEchoes x = Edge.reads(DAY, FORTY);
        Check.due("forty", x.deed(0, NONE, 0), 40);
        Check.due("none of an empty one", Check.tell(x, DAY, ""), 1);
        Check.due("none of an empty one", x.deed(1, NONE, 0), 0);
    }

    private static void deedNumbers() {
        TwoEchoes x = Edge.reads(DAY, "whisper 5 7;say 4 6;shout 3 5;walk 2 30;wait 60;");
        int[][] due = {{0, 5, 7}, {1, 4, 6}, {2, 3, 5}, {3, 2, 30}, {4, 60, NONE}};
        for (int k = 0; k < due.length; k++) {
            for (int what = 0; what < 3; what++) {
                Check.due("deed(0, " + k + ", " + what + ")", x.deed(0, k, what), due[k][what]);
            }
        }
    }

    private static void noSuchDeed() {
        TwoEchoes x = Edge.reads(DAY, "wait 1;say 0 0;");
        Edge.same("DAY", n -> x.deed(n, NONE, 0), -2, -1, 1, 2, Edge.LOW, Edge.HIGH);
        Edge.same("DAY, DEED 0", n -> x.deed(n, 0, 0), -2, -1, 1, 2, Edge.LOW, Edge.HIGH);
        Edge.same("DEED", n -> x.deed(0, n, 0), -2, -2, 2, 3, 40, Edge.LOW, Edge.HIGH);
        Edge.same("another what", n -> x.deed(0, 0, n), -2, -1, 3, Edge.LOW, Edge.HIGH);
        Edge.same("another what of how many", n -> x.deed(0, NONE, n), -2, -1, 1, 2, 3, Edge.LOW, Edge.HIGH);
    }

    private static void lessonWhat() {
        TwoEchoes x = Edge.reads(LESSON, "gave 1 2;" + "gave 0 0;".repeat(8) + "gave 6 7;lies 8;");
        Edge.each("lesson", n -> x.lesson(0, n), 0, 8, 1, 10, 10, 1, 11, 0, 19, 6, 20, 2, 21, 0, 29, 7);
    }

    private static void noSuchLessonWhat() {
        TwoEchoes x = Edge.reads(LESSON, "gave 1 2;gave 3 4;");
        Edge.same("LESSON", n -> x.lesson(n, 0), NONE, -1, 1, 2, Edge.LOW, Edge.HIGH);
        Edge.same("no such PAIR", n -> x.lesson(0, n), NONE, 12, 19, 22, 29);
        Edge.same("another what", n -> x.lesson(0, n), NONE, -1, 2, 3, 9, 30, 31, Edge.LOW, Edge.HIGH);
        TwoEchoes full = Edge.reads(LESSON, TEN);
        Edge.same("beyond all", n -> full.lesson(0, n), NONE, 9, 30, 31);
    }

    private static void howManyFacts() {
        TwoEchoes x = Edge.reads(SIGHT, EIGHT);
        Check.due("eight", x.fact(0, NONE, 0), 8);
        Check.due("an empty one", Check.tell(x, SIGHT, ""), 1);
        Check.due("none of an empty one", x.fact(1, NONE, 0), 0);
    }

    private static void factWhat() {
        TwoEchoes x = Edge.reads(SIGHT, "heard 30 99 7;not 1 2 3;");
        int[][] due = {{1, 30, 99, 7}, {0, 1, 2, 3}};
        for (int k = 0; k < 2; k++) {
            for (int what = 0; what < 4; what++) {
                Check.due("fact(0, " + k + ", " + what + ")", x.fact(0, k, what), due[k][what]);
            }
        }
    }

    private static void noSuchFact() {
        TwoEchoes x = Edge.reads(SIGHT, "not 1 2 3;heard 4 5 6;");
        Edge.same("SIGHT", n -> x.fact(n, NONE, 0), -2, -1, 1, 2, Edge.LOW, Edge.HIGH);
        Edge.same("SIGHT, FACT 0", n -> x.fact(n, 0, 0), -2, -1, 1, 2, Edge.LOW, Edge.HIGH);
        Edge.same("FACT", n -> x.fact(0, n, 0), -2, -2, 2, 3, 8, Edge.LOW, Edge.HIGH);
        Edge.same("another what", n -> x.fact(0, 0, n), -2, -1, 4, Edge.LOW, Edge.HIGH);
        Edge.same("another what of how many", n -> x.fact(0, NONE, n), -2, -1, 1, 2, 3, 4, Edge.LOW, Edge.HIGH);
    }

    private static void countOfSorts() {
        TwoEchoes x = new TwoEchoes();
        Check.tell(x, VALLEY, "");
        Check.tell(x, VALLEY, "");
        Check.tell(x, LESSON, "");
        Check.tell(x, SIGHT, "$");
        Edge.each("count", x::count, 0, 2, 1, 0, 2, 1, 3, 0);
    }

    private static void countOfNoSort() {
        TwoEchoes x = new TwoEchoes();
        Edge.same("count", x::count, -2, -1, 4, 5, Edge.LOW, Edge.HIGH);
    }

    /** An object with something told of each sort, a FAULT, and a text on the tape. */
    private static TwoEchoes told() {
        TwoEchoes x = Edge.reads(VALLEY, "wide 5;should 1 2;thought 1 3;weight 1 4;buyer 5 6;snow 7 8;");
        Check.tell(x, DAY, "walk 1 2;wait 3;");
        Check.tell(x, LESSON, "lies 4;gave 5 6;");
        Check.tell(x, SIGHT, "heard 7 8 1;");
        Check.due("FAULT", Check.tell(x, DAY, "wait 0;"), NONE);
        Check.feed(x, "wide 9;");
        return x;
    }

    private static void isAsTold(TwoEchoes x) {
        Edge.each("count", x::count, 0, 1, 1, 1, 2, 1, 3, 1);
        Edge.each("valley", n -> x.valley(0, n), 0, 5, 1, 1, 2, 1, 11, 2, 21, 3, 31, 4, 40, 1, 50, 5, 60, 6, 70, 1, 80,
            7, 90, 8);
        Edge.each("weather", n -> x.weather(0, n), 6, 0, 7, 2, 8, 2, 9, 0);
        Edge.each("deed 0", n -> x.deed(0, 0, n), 0, 3, 1, 1, 2, 2);
        Edge.each("deed 1", n -> x.deed(0, 1, n), 0, 4, 1, 3, 2, NONE);
        Check.due("DEEDS", x.deed(0, NONE, 0), 2);
        Edge.each("lesson", n -> x.lesson(0, n), 0, 4, 1, 1, 10, 5, 20, 6);
        Check.due("FACTS", x.fact(0, NONE, 0), 1);
        Edge.each("fact", n -> x.fact(0, 0, n), 0, 1, 1, 7, 2, 8, 3, 1);
        Edge.each("fault", x::fault, 0, 2, 1, 5);
        Check.due("the tape has no more", x.end(8), NONE);
    }

    /** Tells other things in the place of all that told() has, and further ones. */
    private static void tellOthers(TwoEchoes x) {
        String[] others = {"wide 20;" + SIX + FOUR, FORTY, TEN, EIGHT};
        for (int sort = 0; sort < 4; sort++) {
            Check.feed(x, others[sort]);
            Check.due("in its place", x.text(sort, 0), 0);
            Check.due("a further one", Check.tell(x, sort, others[sort]), 1);
        }
        Check.feed(x, "wait 5;wait 6;wait 7;");
    }

    private static void imageOfAll() {
        TwoEchoes x = told();
        Check.due("image", x.image(0), true);
        isAsTold(x);
        tellOthers(x);
        Check.due("again", x.again(0), true);
        isAsTold(x);
        Check.due("the tape", x.text(VALLEY, NONE), 1);
        Check.due("as it was", x.valley(1, 0), 9);
        TwoEchoes empty = new TwoEchoes();
        Check.due("image of nothing", empty.image(2), true);
        tellOthers(empty = tellTwo(empty));
        Check.due("again", empty.again(2), true);
        Edge.same("count", empty::count, 0, 0, 1, 2, 3);
        Check.due("the tape is empty", empty.end(1), NONE);
    }

    private static TwoEchoes tellTwo(TwoEchoes x) {
        for (int sort = 0; sort < 4; sort++) {
            Check.due("one of each", Check.tell(x, sort, ""), 0);
        }
        return x;
    }

    private static void threeImages() {
        TwoEchoes x = new TwoEchoes();
        for (int k = 0; k < 3; k++) {
            Check.feed(x, "wide " + (5 + k) + ";");
            x.text(VALLEY, k == 0 ? NONE : 0);
            Check.due("image(" + k + ")", x.image(k), true);
        }
        for (int k = 2; k >= 0; k--) {
            Check.due("again(" + k + ")", x.again(k), true);
            Check.due("WIDE", x.valley(0, 0), 5 + k);
        }
        Check.due("as it is now, over an earlier one", x.image(2), true);
        x.again(1);
        Check.due("WIDE of image 1", x.valley(0, 0), 6);
        x.again(2);
        Check.due("WIDE of image 2", x.valley(0, 0), 5);
    }

    private static void noSuchImage() {
        TwoEchoes x = told();
        Edge.same("image", k -> x.image(k) ? 1 : 0, 0, -1, 3, 4, Edge.LOW, Edge.HIGH);
        Edge.same("none was made", k -> x.again(k) ? 1 : 0, 0, -1, 0, 1, 2, 3, 4, Edge.LOW, Edge.HIGH);
        isAsTold(x);
    }

    private static void againAsItWas() {
        TwoEchoes x = told();
        x.image(1);
        tellOthers(x);
        x.image(2);
        for (int round = 0; round < 2; round++) {
            Check.due("again(1)", x.again(1), true);
            isAsTold(x);
            Check.due("again(2)", x.again(2), true);
            Check.due("count", x.count(DAY), 2);
            Check.due("FAULT 0", x.fault(0), 0);
            Check.due("its place", x.fault(1), NONE);
            Check.due("the tape of 21 bytes", x.end(21), 21);
            Check.due("what is done then is not done to the image", x.text(DAY, 1), 1);
            Check.due("DEEDS", x.deed(1, NONE, 0), 3);
        }
        Check.due("again(2)", x.again(2), true);
        Check.due("DEEDS", x.deed(1, NONE, 0), 40);
    }

    private static void againOfNone() {
        TwoEchoes x = told();
        Check.due("image(1)", x.image(1), true);
        Check.tell(x, VALLEY, "wide 7;");
        Edge.same("again", k -> x.again(k) ? 1 : 0, 0, 0, 2, -1, 3, 4, Edge.LOW, Edge.HIGH);
        Check.due("nothing came back", x.count(VALLEY), 2);
        Check.due("again(1)", x.again(1), true);
        Check.due("count", x.count(VALLEY), 1);
    }
}
