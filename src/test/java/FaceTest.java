import java.lang.reflect.Constructor;
import java.lang.reflect.Field;
import java.lang.reflect.Method;
import java.lang.reflect.Modifier;
import java.util.Arrays;
import java.util.Set;
import java.util.TreeSet;

/** The class shows the document's face and nothing else, and keeps its state within its objects. */
public final class FaceTest {
    private static final String FACE = "int because(int,boolean) IAE; int cell(int,int) IAE ISE; int conflict();"
            + " boolean force(int,boolean); int greatest(int,int) IAE; int high(int); boolean hold(int,boolean);"
            + " int least(int,int) IAE; int low(int); boolean narrow(); int relate(int,int,int,int) IAE ISE;"
            + " int row(int,int,int); boolean satisfied(int); int set(int,int,int) IAE ISE; int solve(int) IAE;"
            + " int steps(); int value(int)";

    private static final Set<Class<?>> CONSTANTS = Set.of(int.class, long.class, boolean.class, char.class, String.class,
            int[].class, long[].class, char[].class, byte[].class);

    private static int wrong = 0;

    public static void main(String[] args) {
        Class<?> sheet = RangeSheet.class;
        look("public and final", Modifier.isPublic(sheet.getModifiers()) && Modifier.isFinal(sheet.getModifiers()));
        methods(sheet);
        fields(sheet);
        Constructor<?>[] constructors = sheet.getDeclaredConstructors();
        look("one public constructor without parameters", constructors.length == 1
                && Modifier.isPublic(constructors[0].getModifiers()) && constructors[0].getParameterCount() == 0);
        classesInside(sheet);
        System.out.println(wrong == 0 ? "the face is the document's" : wrong + " things about the face are wrong");
        if (wrong != 0) {
            System.exit(1);
        }
    }

    private static void look(String what, boolean holds) {
        if (!holds) {
            wrong++;
            System.out.println("not so: " + what);
        }
    }

    private static void methods(Class<?> sheet) {
        Set<String> shown = new TreeSet<>();
        Set<String> shownNames = new TreeSet<>();
        for (Method m : sheet.getDeclaredMethods()) {
            if (!Modifier.isPrivate(m.getModifiers())) {
                shown.add(told(m));
                shownNames.add(m.getName());
                look(m + " is public and of the object", Modifier.isPublic(m.getModifiers())
                        && !Modifier.isStatic(m.getModifiers()));
            }
        }
        look("these methods: " + FACE + ", not " + shown, shown.equals(new TreeSet<>(Arrays.asList(FACE.split("; ")))));
        for (Method m : sheet.getDeclaredMethods()) {
            boolean isHidden = Modifier.isPrivate(m.getModifiers());
            look(m + " bears a name of its own", !isHidden || !shownNames.contains(m.getName()));
        }
    }

    private static String told(Method m) {
        StringBuilder text = new StringBuilder(m.getReturnType().getName()).append(' ').append(m.getName()).append('(');
        for (Class<?> parameter : m.getParameterTypes()) {
            text.append(text.charAt(text.length() - 1) == '(' ? "" : ",").append(parameter.getName());
        }
        text.append(')');
        for (Class<?> thrown : m.getExceptionTypes()) {
            text.append(thrown == IllegalArgumentException.class ? " IAE"
                    : thrown == IllegalStateException.class ? " ISE" : " " + thrown);
        }
        return text.toString();
    }

    private static void fields(Class<?> sheet) {
        for (Field f : sheet.getDeclaredFields()) {
            int mark = f.getModifiers();
            look(f + " is NONE or private", Modifier.isPrivate(mark)
                    || f.getName().equals("NONE") && Modifier.isPublic(mark) && Modifier.isStatic(mark));
            look(f + " is no static state", isNoStaticState(f));
        }
    }

    /** Of the object, or one of the constants that rule 5 of LANGUAGE.md lists. */
    private static boolean isNoStaticState(Field f) {
        Class<?> type = f.getType();
        boolean isListed = CONSTANTS.contains(type) || type.isEnum()
                || type.isArray() && type.getComponentType().isEnum();
        return !Modifier.isStatic(f.getModifiers()) || Modifier.isFinal(f.getModifiers()) && isListed;
    }

    private static void classesInside(Class<?> sheet) {
        Class<?>[] inside = sheet.getDeclaredClasses();
        look("some twelve classes at most", inside.length <= 12);
        for (Class<?> c : inside) {
            look(c + " is static and not shown", Modifier.isStatic(c.getModifiers())
                    && !Modifier.isPublic(c.getModifiers()) && !Modifier.isProtected(c.getModifiers()));
            for (Field f : c.getDeclaredFields()) {
                look(f + " is no static state", isNoStaticState(f));
            }
        }
    }
}
