/** Promises 1 to 3: a new object, feed, end. */
public final class TapeTest {
    public static void main(String[] args) {
        newObject();
        feeding();
        ending();
        bytesInOrder();
        Check.end("TapeTest");
    }

    private static void newObject() {
        TwoEchoes x = new TwoEchoes();
        for (int sort = 0; sort < 4; sort++) {
            Check.due("count", x.count(sort), 0);
        }
        for (int k = 0; k < 3; k++) {
            Check.due("again without an image", x.again(k), false);
        }
        Check.due("fault(0)", x.fault(0), 0);
        Check.due("fault(1)", x.fault(1), -1);
        Check.due("end(1) of an empty tape", x.end(1), -1);
        Check.due("valley(0, 0)", x.valley(0, 0), -1);
        Check.due("deed(0, NONE, 0)", x.deed(0, -1, 0), -2);
        Check.due("lesson(0, 0)", x.lesson(0, 0), -1);
        Check.due("fact(0, NONE, 0)", x.fact(0, -1, 0), -2);
    }

    private static void feeding() {
        TwoEchoes x = new TwoEchoes();
        for (int k = 1; k <= 30; k++) {
            Check.due("feed", x.feed(0, 0, 0, 0, 0), 20L * k);
        }
        Check.due("feed beyond 600", x.feed(0, 0, 0, 0, 0), -1);
        Check.due("end(600): nothing came", x.end(600), 600);
        Check.due("end(581)", x.end(581), 581);
        Check.due("feed to 601", x.feed(0, 0, 0, 0, 0), -1);
        Check.due("end(580)", x.end(580), 580);
        Check.due("feed to 600", x.feed(0, 0, 0, 0, 0), 600);
    }

    private static void ending() {
        TwoEchoes x = new TwoEchoes();
        x.feed(1, 2, 3, 4, 5);
        Check.due("end(21)", x.end(21), -1);
        Check.due("end(-1)", x.end(-1), -1);
        Check.due("end(-5)", x.end(Integer.MIN_VALUE), -1);
        Check.due("end(20)", x.end(20), 20);
        Check.due("end(7)", x.end(7), 7);
        Check.due("end(8)", x.end(8), -1);
        Check.due("feed behind 7", x.feed(0, 0, 0, 0, 0), 27);
        Check.due("end(0)", x.end(0), 0);
        Check.due("end(1)", x.end(1), -1);
    }

    private static void bytesInOrder() {
        TwoEchoes x = new TwoEchoes();
        // "wide", " 17;", "thou", "ght ", "3 9;": each number's highest byte is the first one
        x.feed(0x77696465, 0x2031373b, 0x74686f75, 0x67687420, 0x3320393b);
        Check.due("text", x.text(0, -1), 0);
        Check.due("WIDE", x.valley(0, 0), 17);
        Check.due("THOUGHT of 3", x.valley(0, 23), 9);
        // a byte of 128 or more is no letter, digit or blank
        x.feed(0xff200a20, 0x20202020, 0x20202020, 0x20202020, 0x20202020);
        Check.due("text of a byte 255", x.text(0, -1), -1);
        Check.due("its FAULT", x.fault(0), 1);
        Check.due("its place", x.fault(1), 0);
    }
}
