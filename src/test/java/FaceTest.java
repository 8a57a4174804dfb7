import java.lang.reflect.Constructor;
import java.lang.reflect.Field;
import java.lang.reflect.Method;
import java.lang.reflect.Modifier;
import java.util.Arrays;
import java.util.Set;
import java.util.TreeSet;

/** The face is the document's and no more (rule 1 of LANGUAGE.md); LanguageTest looks at the other rules. */
public final class FaceTest {
    private static final String[] FACE = {
        "int feed(int,int,int,int,int)", "int end(int)", "int text(int,int)", "int fault(int)", "int valley(int,int)",
        "int heard(int,int,int,int,int,int,int)", "int gives(int,int,int,int)", "int deed(int,int,int)",
        "int stop(int,int)", "int state(int,int,int,int)", "int hush(int,int,int,int,boolean)",
        "int crowd(int,int,int,boolean)", "int chain(int,int,int)", "int late(int,int,int)", "int market(int,int)",
        "int bargain(int,int,int,boolean)", "int talk(int,int)", "int lesson(int,int)", "int rules(int,int)",
        "int fact(int,int,int)", "int said(int,int,int)", "int spot(int,int,boolean)", "int drawn(int,int,int,int)",
        "int rings(int,int)", "long unsure(int,int,boolean)", "int spread(int,int,int,boolean)", "int guards(int,int)",
        "int middle(int,int)", "int auction(int,int,boolean)", "int relayed(int,int,int,int)", "int weather(int,int)",
        "int matched(int,int)", "int count(int)", "boolean image(int)", "boolean again(int)"};

    public static void main(String[] args) throws Exception {
        methods();
        fields();
        classesInside();
        Check.end("FaceTest");
    }

    private static void methods() {
        Set<String> open = new TreeSet<>();
        Set<String> names = new TreeSet<>();
        for (Method method : TwoEchoes.class.getDeclaredMethods()) {
            if (!Modifier.isPrivate(method.getModifiers())) {
                Check.due(method + " is public", Modifier.isPublic(method.getModifiers()), true);
                open.add(signature(method));
                names.add(method.getName());
            }
        }
        Check.due("the methods of the face: " + open, open.equals(new TreeSet<>(Arrays.asList(FACE))), true);
        for (Method method : TwoEchoes.class.getDeclaredMethods()) {
            if (Modifier.isPrivate(method.getModifiers())) {
                Check.due(method + " has a name of its own", names.contains(method.getName()), false);
            }
        }
        for (Class<?> inside : TwoEchoes.class.getDeclaredClasses()) {
            for (Method method : inside.getDeclaredMethods()) {
                Check.due(method + " has a name of its own", names.contains(method.getName()), false);
                Check.due(method + " takes seven at most", method.getParameterCount() <= 7, true);
            }
        }
        Constructor<?>[] constructors = TwoEchoes.class.getDeclaredConstructors();
        Check.due("constructors", constructors.length, 1);
        Check.due("the constructor's parameters", constructors[0].getParameterCount(), 0);
        Check.due("the constructor is public", Modifier.isPublic(constructors[0].getModifiers()), true);
        Check.due("the class is public and final", TwoEchoes.class.getModifiers(), Modifier.PUBLIC | Modifier.FINAL);
    }

    private static String signature(Method method) {
        StringBuilder text = new StringBuilder(method.getReturnType().getName() + " " + method.getName() + "(");
        for (Class<?> type : method.getParameterTypes()) {
            text.append(text.charAt(text.length() - 1) == '(' ? "" : ",").append(type.getName());
        }
        return text.append(")").toString();
    }

    private static void fields() throws Exception {
        for (Field field : TwoEchoes.class.getDeclaredFields()) {
            boolean isNone = field.getName().equals("NONE");
            Check.due(field + " is private, but for NONE", Modifier.isPrivate(field.getModifiers()), !isNone);
        }
        Check.due("NONE", TwoEchoes.class.getField("NONE").getInt(null), -1);
        checkFields(TwoEchoes.class);
    }

    private static void checkFields(Class<?> owner) {
        int own = 0;
        for (Field field : owner.getDeclaredFields()) {
            boolean isStatic = Modifier.isStatic(field.getModifiers());
            own += isStatic ? 0 : 1;
            Check.due(field + ", if static, is final", isStatic && !Modifier.isFinal(field.getModifiers()), false);
        }
        Check.due("fields of " + owner, own <= 20, true);
    }

    private static void classesInside() {
        Class<?>[] inside = TwoEchoes.class.getDeclaredClasses();
        Check.due("twelve classes at most", inside.length + 1 <= 12, true);
        for (Class<?> one : inside) {
            Check.due(one + " is static", Modifier.isStatic(one.getModifiers()), true);
            Check.due(one + " is not public", Modifier.isPublic(one.getModifiers()), false);
            checkFields(one);
        }
    }
}
