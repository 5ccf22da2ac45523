import java.lang.reflect.Constructor;
import java.lang.reflect.Field;
import java.lang.reflect.Method;
import java.lang.reflect.Modifier;
import java.util.TreeSet;

/** The class has the document's public face and nothing else that can be seen from outside. */
public final class FaceTest {
    private static final String FACE =
        "feed(int) coast() fault() told(int) weather(int) glass(int,int) boat(int,int) logged(int,int) "
        + "day(int) drink(int) keepFrom(int) glad(int,int) weigh(int,int) hold(int,boolean) find(int) drift(int) undo(int) "
        + "tells(int) catches(int,int) loses(int) bestLimit(int,int) error(int) truest(int) bestWeights(int) steps(int) "
        + "allTrue(int,int) differ(int) fair(int,int) falseOnes() holds(int) homeBy(int,int) "
        + "tap(int,int) could() tapNext() write(int,int) judge() tear() seed(int) keep(int) goBack(int)";
    private static final String[] CONSTANTS = {"NONE", "UNKNOWN", "OUTSIDE", "NOT", "FULL"};
    private static final int[] VALUES = {-1, -1000000001, -1000000002, -1000000003, -1000000004};

    private static int wrong = 0;

    private static void due(String what, Object got, Object want) {
        if (!got.equals(want)) {
            wrong++;
            System.out.println(what + " is " + got + ", due is " + want);
        }
    }

    private static String shape(Method m) {
        StringBuilder t = new StringBuilder(m.getName()).append('(');
        for (Class<?> c : m.getParameterTypes()) t.append(t.charAt(t.length() - 1) == '(' ? "" : ",").append(c.getName());
        return t.append(')').toString();
    }

    private static void methods() {
        TreeSet<String> want = new TreeSet<>(), got = new TreeSet<>(), publicNames = new TreeSet<>();
        for (String one : FACE.split(" ")) want.add(one);
        for (Method m : GladGlasses.class.getDeclaredMethods()) {
            if (Modifier.isPrivate(m.getModifiers())) continue;
            got.add(shape(m));
            publicNames.add(m.getName());
            due("the kind of " + m.getName(), Modifier.toString(m.getModifiers()) + " " + m.getReturnType(), "public int");
        }
        due("the face", got, want);
        for (Method m : GladGlasses.class.getDeclaredMethods())
            if (Modifier.isPrivate(m.getModifiers())) due(m.getName() + " as a private name", publicNames.contains(m.getName()), false);
        for (Class<?> c : GladGlasses.class.getDeclaredClasses())
            for (Method m : c.getDeclaredMethods()) due(m.getName() + " as a name inside " + c.getSimpleName(), publicNames.contains(m.getName()), false);
    }

    private static void fields() throws ReflectiveOperationException {
        TreeSet<String> want = new TreeSet<>(), got = new TreeSet<>();
        for (String one : CONSTANTS) want.add(one);
        for (Field f : GladGlasses.class.getDeclaredFields()) {
            if (Modifier.isStatic(f.getModifiers())) due(f.getName() + " is final", Modifier.isFinal(f.getModifiers()), true);
            if (!Modifier.isPrivate(f.getModifiers())) got.add(f.getName());
        }
        due("the constants", got, want);
        for (int i = 0; i < CONSTANTS.length; i++) due(CONSTANTS[i], GladGlasses.class.getField(CONSTANTS[i]).getInt(null), VALUES[i]);
    }

    private static void classes() {
        due("the class", Modifier.toString(GladGlasses.class.getModifiers()), "public final");
        Constructor<?>[] all = GladGlasses.class.getDeclaredConstructors();
        due("constructors", all.length, 1);
        due("the constructor", Modifier.toString(all[0].getModifiers()) + all[0].getParameterCount(), "public0");
        due("at most twelve classes", GladGlasses.class.getDeclaredClasses().length < 12, true);
        for (Class<?> c : GladGlasses.class.getDeclaredClasses()) {
            due(c.getSimpleName() + " is private and static", Modifier.toString(c.getModifiers()).startsWith("private static"), true);
            int own = 0;
            for (Field f : c.getDeclaredFields()) if (!Modifier.isStatic(f.getModifiers())) own++;
            due(c.getSimpleName() + " has at most twenty fields", own <= 20, true);
        }
    }

    public static void main(String[] args) throws ReflectiveOperationException {
        methods();
        fields();
        classes();
        System.out.println(wrong == 0 ? "the face is the document's" : wrong + " parts of the face are not as due");
        if (wrong != 0) System.exit(1);
    }
}
