/** Terms 3 and 6 about SELLERS and BUYERS: promises 16, 17, 30. */
final class EdgesOfTrade {
    private static final int NONE = TwoEchoes.NONE;

    private EdgesOfTrade() {
    }

    static void run() {
        Edge.test("Terms 3", "MARKET: SELLERS sell for their WISH or more, BUYERS buy for theirs or less",
            EdgesOfTrade::orMoreOrLess);
        Edge.test("Terms 3",
            "one thing each: the most that all gain together (WISHES of BUYERS less those of SELLERS who trade)",
            EdgesOfTrade::mostGain);
        Edge.test("Terms 3", "the most couples who trade so that this is so", EdgesOfTrade::mostCouples);
        Edge.test("Terms 3", "the least, the greatest PRICE, 0 .. 99, for which as many sell and buy",
            EdgesOfTrade::prices);
        Edge.test("Terms 3", "(who are glad of either may do either)", EdgesOfTrade::gladOfEither);
        Edge.test("Promise 16", "MARKET, what 0: gain, 1: couples, 2, 3: the least, the greatest PRICE.",
            EdgesOfTrade::marketWhat);
        Edge.test("Promise 16", "NONE: there is none such, or for another what.", EdgesOfTrade::noSuchMarket);
        Edge.test("Terms 3", "each calls a number, 0 .. 99: if the BUYER's is the SELLER's or more, they trade",
            EdgesOfTrade::sellersOrMore);
        Edge.test("Terms 3", "for half of both together (cut), each gains by his WISH; else nobody does.",
            EdgesOfTrade::halfOfBoth);
        Edge.test("Terms 3", "RESTS: couples of calls by which neither gains more by another one: how many",
            EdgesOfTrade::rests);
        Edge.test("Terms 3", "TRADED: in how many of these they trade.", EdgesOfTrade::traded);
        Edge.test("Promise 17", "BARGAIN of two PEOPLE: how many RESTS, or (traded) TRADED.", EdgesOfTrade::bargain);
        Edge.test("Promise 17", "NONE: the first is no SELLER, the second no BUYER", EdgesOfTrade::noSellerNoBuyer);
        Edge.test("Promise 17", "or there is none such (of any).", EdgesOfTrade::noSuchBargain);
        Edge.test("Terms 6", "AUCTION of a SELLER: the BUYER of the greatest WISH, of several the least, has the thing",
            EdgesOfTrade::greatestWish);
        Edge.test("Terms 6", "if that is the SELLER's WISH or more", EdgesOfTrade::wishOrMore);
        Edge.test("Terms 6",
            "for the greatest WISH of the other BUYERS, or the SELLER's, what is more: who; for how much.",
            EdgesOfTrade::whatIsMore);
        Edge.test("Promise 30", "AUCTION: who, or (price) for how much.", EdgesOfTrade::auction);
        Edge.test("Promise 30", "NONE: nobody", EdgesOfTrade::nobody);
        Edge.test("Promise 30", "he is no SELLER", EdgesOfTrade::noSeller);
        Edge.test("Promise 30", "or there is none such (of either).", EdgesOfTrade::noSuchAuction);
    }

    private static void marketIs(String valley, int gain, int couples, int least, int greatest) {
        TwoEchoes x = Edge.reads(0, valley);
        Edge.each("market of " + valley, n -> x.market(0, n), 0, gain, 1, couples, 2, least, 3, greatest);
    }

    private static void orMoreOrLess() {
        marketIs("seller 0 30;buyer 0 30;", 0, 1, 30, 30);
        marketIs("seller 0 30;buyer 0 29;", 0, 0, 29, 30);
        marketIs("seller 0 30;buyer 0 31;", 1, 1, 30, 31);
        marketIs("seller 0 0;buyer 0 0;", 0, 1, 0, 0);
        marketIs("seller 0 99;buyer 0 99;", 0, 1, 99, 99);
    }

    private static void mostGain() {
        marketIs("seller 0 10;buyer 0 50;buyer 0 60;", 50, 1, 50, 60);
        marketIs("seller 0 10;seller 0 20;buyer 0 60;", 50, 1, 10, 20);
        marketIs("seller 0 0;buyer 0 99;seller 0 0;buyer 0 99;seller 0 0;buyer 0 99;", 297, 3, 0, 99);
        marketIs("seller 0 40;buyer 0 50;seller 0 60;buyer 0 70;", 30, 1, 50, 60);
        marketIs("buyer 0 70;seller 0 40;", 30, 1, 40, 70);
        marketIs("seller 0 3;buyer 0 90;seller 0 2;buyer 0 80;seller 0 1;buyer 0 70;", 234, 3, 3, 70);
    }

    private static void mostCouples() {
        marketIs("seller 0 10;seller 0 30;buyer 0 30;buyer 0 50;", 40, 2, 30, 30);
        marketIs("seller 0 30;seller 0 30;seller 0 30;buyer 0 30;buyer 0 30;buyer 0 30;", 0, 3, 30, 30);
        marketIs("seller 0 10;seller 0 31;buyer 0 30;buyer 0 50;", 40, 1, 30, 31);
    }

    private static void prices() {
        marketIs("", 0, 0, 0, 99);
        marketIs("preacher 0 50;", 0, 0, 0, 99);
        marketIs("seller 0 0;", 0, 0, 0, 0);
        marketIs("seller 0 99;", 0, 0, 0, 99);
        marketIs("buyer 0 99;", 0, 0, 99, 99);
        marketIs("buyer 0 0;", 0, 0, 0, 99);
        marketIs("seller 0 0;buyer 0 99;", 99, 1, 0, 99);
        marketIs("seller 0 10;seller 0 90;", 0, 0, 0, 10);
        marketIs("buyer 0 10;buyer 0 90;", 0, 0, 90, 99);
        marketIs("seller 0 99;buyer 0 0;", 0, 0, 0, 99);
    }

    private static void gladOfEither() {
        marketIs("seller 0 10;seller 0 20;buyer 0 20;", 10, 1, 10, 20);
        marketIs("seller 0 20;buyer 0 20;buyer 0 30;", 10, 1, 20, 30);
        marketIs("seller 0 20;seller 0 20;seller 0 20;buyer 0 50;", 30, 1, 20, 20);
        marketIs("buyer 0 20;buyer 0 20;buyer 0 20;seller 0 5;", 15, 1, 20, 20);
    }

    private static void marketWhat() {
        TwoEchoes x = Edge.reads(0, "seller 0 10;buyer 0 60;buyer 0 40;");
        Edge.each("what", n -> x.market(0, n), 0, 50, 1, 1, 2, 40, 3, 60);
    }

    private static void noSuchMarket() {
        TwoEchoes x = Edge.reads(0, "seller 0 10;buyer 0 60;");
        for (int what = 0; what < 4; what++) {
            int asked = what;
            Edge.same("VALLEY", n -> x.market(n, asked), NONE, -1, 1, 2, Edge.LOW, Edge.HIGH);
        }
        Edge.same("what", n -> x.market(0, n), NONE, -1, 4, 5, Edge.LOW, Edge.HIGH);
    }

    /**
     * They rest where both call one number that both are glad of (from the SELLER's WISH to the BUYER's), or where the BUYER
     * calls the SELLER's WISH or less, the SELLER the BUYER's or more, and the BUYER's call is less than the SELLER's.
     */
    private static void bargainIs(int seller, int buyer, int rests, int traded) {
        TwoEchoes x = Edge.reads(0, "seller 0 " + seller + ";buyer 0 " + buyer + ";");
        Check.due("RESTS of " + seller + ", " + buyer, x.bargain(0, 0, 1, false), rests);
        Check.due("TRADED of " + seller + ", " + buyer, x.bargain(0, 0, 1, true), traded);
    }

    private static void sellersOrMore() {
        bargainIs(0, 99, 100 + 1, 100);
        bargainIs(0, 0, 1 + 99, 1);
        bargainIs(99, 99, 1 + 99, 1);
    }

    private static void halfOfBoth() {
        bargainIs(50, 50, 1 + 51 * 50 - 1, 1);
        bargainIs(50, 51, 2 + 51 * 49, 2);
        bargainIs(0, 1, 2 + 99, 2);
    }

    private static void rests() {
        bargainIs(30, 50, 21 + 31 * 50, 21);
        bargainIs(99, 0, 100 * 99 / 2, 0);
        bargainIs(50, 49, 51 * 51 - 3, 0);
        bargainIs(0, 50, 51 + 50, 51);
        bargainIs(50, 99, 50 + 51, 50);
    }

    private static void traded() {
        bargainIs(10, 9, 11 * 91 - 3, 0);
        bargainIs(10, 10, 1 + 11 * 90 - 1, 1);
        bargainIs(10, 11, 2 + 11 * 89, 2);
    }

    private static void bargain() {
        TwoEchoes x = Edge.reads(0, "buyer 3 50;preacher 3 0;seller 9 30;buyer 0 99;seller 12 0;");
        Check.due("RESTS", x.bargain(0, 2, 0, false), 21 + 31 * 50);
        Check.due("TRADED", x.bargain(0, 2, 0, true), 21);
        Check.due("TRADED of two others", x.bargain(0, 4, 3, true), 100);
    }

    private static void noSellerNoBuyer() {
        TwoEchoes x = Edge.reads(0, "seller 3 50;buyer 3 60;preacher 3 0;");
        for (boolean traded : new boolean[] {false, true}) {
            Edge.same("the first is no SELLER", n -> x.bargain(0, n, 1, traded), NONE, 1, 2);
            Edge.same("the second is no BUYER", n -> x.bargain(0, 0, n, traded), NONE, 0, 2);
            Check.due("the other way about", x.bargain(0, 1, 0, traded), NONE);
        }
        Check.due("a SELLER and a BUYER", x.bargain(0, 0, 1, true), 11);
    }

    private static void noSuchBargain() {
        TwoEchoes x = Edge.reads(0, "seller 3 50;buyer 3 60;");
        for (boolean traded : new boolean[] {false, true}) {
            Edge.same("VALLEY", n -> x.bargain(n, 0, 1, traded), NONE, -1, 1, 2, Edge.LOW, Edge.HIGH);
            Edge.same("SELLER", n -> x.bargain(0, n, 1, traded), NONE, -1, 2, 6, Edge.LOW, Edge.HIGH);
            Edge.same("BUYER", n -> x.bargain(0, 0, n, traded), NONE, -1, 2, 6, Edge.LOW, Edge.HIGH);
        }
    }

    private static void greatestWish() {
        TwoEchoes x = Edge.reads(0, "buyer 0 50;seller 0 10;buyer 0 60;buyer 0 60;preacher 0 99;seller 0 0;");
        Check.due("of two as great the least", x.auction(0, 1, false), 2);
        Check.due("of another SELLER", x.auction(0, 5, false), 2);
    }

    private static void wishOrMore() {
        TwoEchoes x = Edge.reads(0, "seller 0 29;seller 0 30;seller 0 31;buyer 0 30;buyer 0 5;");
        Edge.each("who", n -> x.auction(0, n, false), 0, 3, 1, 3, 2, NONE);
        Edge.each("for how much", n -> x.auction(0, n, true), 0, 29, 1, 30, 2, NONE);
    }

    private static void whatIsMore() {
        TwoEchoes x = Edge.reads(0, "seller 0 0;seller 0 40;seller 0 41;buyer 0 60;buyer 0 40;buyer 0 5;");
        Edge.each("for how much", n -> x.auction(0, n, true), 0, 40, 1, 40, 2, 41);
        TwoEchoes even = Edge.reads(0, "seller 0 0;buyer 0 60;buyer 0 60;");
        Check.due("as much as the other one's WISH", even.auction(0, 0, true), 60);
        TwoEchoes one = Edge.reads(0, "seller 0 0;buyer 0 60;preacher 0 70;seller 0 50;");
        Check.due("no other BUYERS", one.auction(0, 0, true), 0);
        Check.due("no other BUYERS, another SELLER", one.auction(0, 3, true), 50);
    }

    private static void auction() {
        TwoEchoes x = Edge.reads(0, "buyer 0 99;seller 0 0;buyer 0 98;");
        Check.due("who", x.auction(0, 1, false), 0);
        Check.due("for how much", x.auction(0, 1, true), 98);
    }

    private static void nobody() {
        TwoEchoes none = Edge.reads(0, "seller 0 0;preacher 0 99;");
        Check.due("no BUYERS", none.auction(0, 0, false), NONE);
        Check.due("no BUYERS, for how much", none.auction(0, 0, true), NONE);
        TwoEchoes dear = Edge.reads(0, "seller 0 99;buyer 0 98;buyer 0 98;");
        Check.due("too dear", dear.auction(0, 0, false), NONE);
        Check.due("too dear, for how much", dear.auction(0, 0, true), NONE);
    }

    private static void noSeller() {
        TwoEchoes x = Edge.reads(0, "buyer 0 99;seller 0 0;preacher 0 98;");
        for (boolean price : new boolean[] {false, true}) {
            Edge.same("no SELLER", n -> x.auction(0, n, price), NONE, 0, 2);
        }
    }

    private static void noSuchAuction() {
        TwoEchoes x = Edge.reads(0, "seller 0 0;buyer 0 99;");
        for (boolean price : new boolean[] {false, true}) {
            Edge.same("VALLEY", n -> x.auction(n, 0, price), NONE, -1, 1, 2, Edge.LOW, Edge.HIGH);
            Edge.same("PERSON", n -> x.auction(0, n, price), NONE, -1, 2, 6, Edge.LOW, Edge.HIGH);
        }
    }
}
