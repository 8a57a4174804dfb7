import java.lang.reflect.InvocationTargetException;
import java.lang.reflect.Method;
import java.util.Arrays;
import java.util.Comparator;
import java.util.Random;

/** No call ever throws, for any arguments in any state; none but those that tell change what is told. */
public final class WildTest {
    private static final int[] EDGES = {0, 1, 2, 3, 4, 5, 6, 7, 8, 9, 10, 11, 18, 20, 29, 30, 31, 40, 50, 59, 60, 61, 63, 64,
        70, 80, 90, 98, 99, 100, 255, 600, 601, -1, -2, -3, -10, -100, Integer.MAX_VALUE, Integer.MIN_VALUE};
    private static final String[] LINES = {"wide 2;", "wide 30;", "wide 15;", "should 1 2;", "should 2 7;", "thought 1 9;",
        "thought 3 4;", "weight 3 99;", "weight 2 0;", "seller 0 10;", "buyer 2 30;", "seller 1 50;", "buyer 0 99;",
        "preacher 2 0;", "fog 0 99;", "fog 30 60;", "snow 10 50;", "snow 99 99;", "say 0 1;", "shout 1 3;", "whisper 5 0;",
        "walk 0 2;", "walk 1 0;", "walk 2 30;", "wait 1;", "wait 60;", "gave 0 3;", "gave 7 7;", "lies 1;", "lies 9;",
        "heard 1 9 3;", "not 2 99 0;", "heard 0 0 0;", "wide 1;", "seller 31 0;", "fog 5 4;", "x", "wide", "100", "\n"};

    public static void main(String[] args) throws Exception {
        Method[] methods = faces();
        for (int seed = 0; seed < 1500; seed++) {
            wildly(methods, new Random(seed));
        }
        for (int seed = 0; seed < 60; seed++) {
            askingChangesNothing(methods, new Random(seed));
        }
        Check.end("WildTest");
    }

    private static Method[] faces() {
        Method[] methods = Arrays.stream(TwoEchoes.class.getDeclaredMethods())
            .filter(m -> java.lang.reflect.Modifier.isPublic(m.getModifiers())).toArray(Method[]::new);
        Arrays.sort(methods, Comparator.comparing(Method::getName));
        return methods;
    }

    private static void wildly(Method[] methods, Random random) throws Exception {
        TwoEchoes x = new TwoEchoes();
        for (int call = 0; call < 512; call++) {
            if (random.nextInt(8) == 0) {
                tellSomething(x, random);
            } else {
                call(x, methods[random.nextInt(methods.length)], random);
            }
        }
    }

    private static void tellSomething(TwoEchoes x, Random random) {
        int sort = random.nextInt(4);
        int[] first = {0, 18, 26, 30};
        int[] behind = {18, 26, 30, 33};
        StringBuilder text = new StringBuilder();
        for (int k = random.nextInt(12); k > 0; k--) {
            boolean any = random.nextInt(60) == 0;
            int line = any ? random.nextInt(LINES.length) : first[sort] + random.nextInt(behind[sort] - first[sort]);
            text.append(LINES[line]);
        }
        Check.feed(x, text.toString());
        x.text(sort, random.nextInt(3) - 1);
    }

    private static Object call(TwoEchoes x, Method method, Random random) throws Exception {
        Class<?>[] types = method.getParameterTypes();
        Object[] values = new Object[types.length];
        for (int k = 0; k < types.length; k++) {
            int number = random.nextInt(3) > 0 ? random.nextInt(4) - 1 : EDGES[random.nextInt(EDGES.length)];
            values[k] = types[k] == boolean.class ? (Object) random.nextBoolean() : (Object) number;
        }
        try {
            return method.invoke(x, values);
        } catch (InvocationTargetException e) {
            Check.due(method.getName() + Arrays.toString(values) + " threw " + e.getCause(), 1, 0);
            return null;
        }
    }

    private static void askingChangesNothing(Method[] methods, Random random) throws Exception {
        TwoEchoes x = new TwoEchoes();
        TwoEchoes y = new TwoEchoes();
        long seed = random.nextLong();
        Random same = new Random(seed);
        Random again = new Random(seed);
        for (int k = 0; k < 12; k++) {
            tellSomething(x, same);
            tellSomething(y, again);
        }
        for (int k = 0; k < 200; k++) {
            Method method = methods[random.nextInt(methods.length)];
            if (!Arrays.asList("feed", "end", "text", "image", "again").contains(method.getName())) {
                call(x, method, random);
            }
        }
        for (int k = 0; k < 200; k++) {
            Method method = methods[random.nextInt(methods.length)];
            long values = random.nextLong();
            Object one = call(x, method, new Random(values));
            Object other = call(y, method, new Random(values));
            Check.due(method.getName() + " answers alike", String.valueOf(one).equals(String.valueOf(other)), true);
        }
    }
}
