/** Promises 16, 17 and 30: market, bargain, auction. */
public final class TradeTest {
    public static void main(String[] args) {
        market();
        bargain();
        auction();
        Check.end("TradeTest");
    }

    private static void market(String valley, int gain, int couples, int least, int greatest) {
        TwoEchoes x = Check.valley(valley);
        Check.due("gain of " + valley, x.market(0, 0), gain);
        Check.due("couples of " + valley, x.market(0, 1), couples);
        Check.due("least PRICE of " + valley, x.market(0, 2), least);
        Check.due("greatest PRICE of " + valley, x.market(0, 3), greatest);
    }

    private static void market() {
        market(Check.VALLEY, 20, 1, 40, 45);
        market("", 0, 0, 0, 99);
        market("preacher 0 50;", 0, 0, 0, 99);
        market("seller 0 30;", 0, 0, 0, 30);
        market("buyer 0 30;", 0, 0, 30, 99);
        market("seller 0 30;buyer 0 30;", 0, 1, 30, 30);
        market("seller 0 31;buyer 0 30;", 0, 0, 30, 31);
        market("seller 0 10;seller 0 20;buyer 0 20;buyer 0 90;", 80, 2, 20, 20);
        market("seller 0 10;seller 0 10;buyer 0 90;", 80, 1, 10, 10);
        market("seller 0 10;buyer 0 80;buyer 0 90;", 80, 1, 80, 90);
        market("seller 0 0;seller 0 5;seller 0 50;buyer 0 99;buyer 0 60;buyer 0 4;", 154, 2, 5, 50);
        TwoEchoes x = Check.valley("");
        Check.due("what 4", x.market(0, 4), -1);
        Check.due("what -1", x.market(0, -1), -1);
        Check.due("no VALLEY", x.market(1, 0), -1);
    }

    private static void bargain() {
        TwoEchoes x = Check.valley(Check.VALLEY);
        // they trade for one number of 30 .. 50 that both call, or nobody is glad: one below 31, one above 49
        Check.due("RESTS", x.bargain(0, 0, 1, false), 21 + 31 * 50);
        Check.due("TRADED", x.bargain(0, 0, 1, true), 21);
        Check.due("no SELLER", x.bargain(0, 1, 1, false), -1);
        Check.due("no BUYER", x.bargain(0, 0, 3, false), -1);
        Check.due("a PREACHER", x.bargain(0, 4, 1, false), -1);
        Check.due("a PREACHER", x.bargain(0, 0, 4, true), -1);
        Check.due("no PERSON", x.bargain(0, 5, 1, false), -1);
        Check.due("no PERSON", x.bargain(0, 0, 5, false), -1);
        Check.due("no PERSON -1", x.bargain(0, -1, 1, false), -1);
        Check.due("no VALLEY", x.bargain(1, 0, 1, false), -1);
        for (int seller = 0; seller < 100; seller += 9) {
            for (int buyer = 0; buyer < 100; buyer += 11) {
                slowly(seller, buyer);
            }
        }
    }

    private static int gain(int asked, int bid, int wish, boolean ofSeller) {
        if (bid < asked) {
            return 0;
        }
        int price = (asked + bid) / 2;
        return ofSeller ? price - wish : wish - price;
    }

    private static void slowly(int seller, int buyer) {
        int rests = 0;
        int traded = 0;
        for (int asked = 0; asked < 100; asked++) {
            for (int bid = 0; bid < 100; bid++) {
                boolean rest = true;
                for (int other = 0; other < 100 && rest; other++) {
                    rest = gain(other, bid, seller, true) <= gain(asked, bid, seller, true)
                        && gain(asked, other, buyer, false) <= gain(asked, bid, buyer, false);
                }
                rests += rest ? 1 : 0;
                traded += rest && bid >= asked ? 1 : 0;
            }
        }
        TwoEchoes x = Check.valley("buyer 3 " + buyer + ";seller 3 " + seller + ";");
        Check.due("RESTS of " + seller + ", " + buyer, x.bargain(0, 1, 0, false), rests);
        Check.due("TRADED of " + seller + ", " + buyer, x.bargain(0, 1, 0, true), traded);
    }

    private static void auction() {
        TwoEchoes x = Check.valley(Check.VALLEY);
        Check.due("who", x.auction(0, 0, false), 1);
        Check.due("for how much", x.auction(0, 0, true), 40);
        Check.due("who, of 45", x.auction(0, 3, false), 1);
        Check.due("for how much, of 45", x.auction(0, 3, true), 45);
        Check.due("no SELLER", x.auction(0, 1, false), -1);
        Check.due("a PREACHER", x.auction(0, 4, true), -1);
        Check.due("no PERSON", x.auction(0, 5, false), -1);
        Check.due("no VALLEY", x.auction(1, 0, false), -1);
        TwoEchoes even = Check.valley("seller 0 7;buyer 0 9;buyer 0 9;seller 0 10;seller 0 9;");
        Check.due("of two as great the least", even.auction(0, 0, false), 1);
        Check.due("for as much", even.auction(0, 0, true), 9);
        Check.due("too dear", even.auction(0, 3, false), -1);
        Check.due("too dear, no price", even.auction(0, 3, true), -1);
        Check.due("just so much", even.auction(0, 4, true), 9);
        TwoEchoes one = Check.valley("buyer 0 50;seller 0 0;");
        Check.due("one BUYER", one.auction(0, 1, false), 0);
        Check.due("one BUYER, the SELLER's WISH", one.auction(0, 1, true), 0);
        Check.due("no BUYERS", Check.valley("seller 0 0;").auction(0, 0, false), -1);
    }
}
