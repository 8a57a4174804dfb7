/** Promises 35 and 36: image, again. */
public final class ImageTest {
    public static void main(String[] args) {
        wrongOnes();
        allThatIsTold();
        threeOfThem();
        Check.end("ImageTest");
    }

    private static void wrongOnes() {
        TwoEchoes x = new TwoEchoes();
        for (int k : new int[] {-1, 3, Integer.MIN_VALUE, Integer.MAX_VALUE}) {
            Check.due("image", x.image(k), false);
            Check.due("again", x.again(k), false);
        }
        for (int k = 0; k < 3; k++) {
            Check.due("again, none yet", x.again(k), false);
            Check.due("image", x.image(k), true);
            Check.due("again", x.again(k), true);
        }
    }

    private static void allThatIsTold() {
        TwoEchoes x = Check.valley(Check.VALLEY);
        Check.tell(x, 1, "wait 5;");
        Check.tell(x, 2, "lies 3;gave 1 2;");
        Check.tell(x, 3, "heard 1 2 3;");
        Check.tell(x, 0, "wide 1;");
        Check.feed(x, "wide 20;");
        Check.due("image(1)", x.image(1), true);
        Check.due("replaced", x.text(0, 0), 0);
        Check.feed(x, "");
        x.text(1, 0);
        Check.feed(x, "");
        x.text(2, 0);
        Check.feed(x, "");
        x.text(3, 0);
        Check.tell(x, 0, "");
        Check.due("count", x.count(0), 2);
        Check.due("WIDE", x.valley(0, 0), 20);
        Check.due("again(1)", x.again(1), true);
        Check.due("count", x.count(0), 1);
        Check.due("WIDE", x.valley(0, 0), 10);
        Check.due("PEOPLE", x.valley(0, 1), 5);
        Check.due("PLACE", x.valley(0, 52), 9);
        Check.due("FOG", x.weather(0, 25), 1);
        Check.due("DEEDS", x.deed(0, -1, 0), 1);
        Check.due("its minutes", x.deed(0, 0, 1), 5);
        Check.due("LIES", x.lesson(0, 0), 3);
        Check.due("PAIR", x.lesson(0, 20), 2);
        Check.due("FACT", x.fact(0, 0, 3), 3);
        Check.due("FAULT", x.fault(0), 2);
        Check.due("its place", x.fault(1), 5);
        Check.due("the tape's length", x.end(9), -1);
        Check.due("the tape", x.text(0, 0), 0);
        Check.due("WIDE", x.valley(0, 0), 20);
        Check.due("the image is still there", x.again(1), true);
        Check.due("WIDE", x.valley(0, 0), 10);
    }

    private static void threeOfThem() {
        TwoEchoes x = new TwoEchoes();
        x.image(0);
        Check.tell(x, 0, "wide 5;");
        x.image(1);
        Check.feed(x, "wide 6;");
        x.text(0, 0);
        x.image(2);
        x.again(0);
        Check.due("nothing", x.count(0), 0);
        x.again(2);
        Check.due("WIDE", x.valley(0, 0), 6);
        x.again(1);
        Check.due("WIDE", x.valley(0, 0), 5);
        x.image(2);
        x.again(0);
        x.again(2);
        Check.due("taken anew", x.valley(0, 0), 5);
    }
}
