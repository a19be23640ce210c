import java.lang.reflect.Constructor;
import java.lang.reflect.Field;
import java.lang.reflect.Member;
import java.lang.reflect.Method;
import java.lang.reflect.Modifier;
import java.util.Arrays;
import java.util.TreeSet;

/** The public face: the constants, the constructor and the methods of the document, and nothing beside them. */
public final class FaceTest {
    private static final String[] METHODS = {"int told(int)", "int row(int, int)", "long cell(int, int, int)",
        "long hand(int)", "int tag(int, int)", "int keyAt(int, int)", "int rank(int, int)", "int compare(int, int)",
        "int below(int, int, int)", "int would(int, int)", "int lay(int, int, int)", "int take(int, long)",
        "int pick(int, int, int)", "int put(int, int, int)", "int pour(int, int, int, int, int)",
        "int weigh(int, int)", "int key(int, int, int)", "int unkey()", "int sheet(int)", "int settle()",
        "int pass()", "int move(int, int, int)", "int part(int)", "int figure(int, int)", "int deal(int)",
        "int drift(int)", "int undo(int)", "int write(int, int)", "int tear()", "int seed(int)", "int keep(int)",
        "int goBack(int)"};

    private FaceTest() {
    }

    public static void main(String[] args) {
        constants();
        methods();
        classItself();
        Runs.finish();
    }

    private static void constants() {
        Runs.due("NONE", RowRanks.NONE, -1);
        Runs.due("UNKNOWN", RowRanks.UNKNOWN, -1000000001);
        Runs.due("OUTSIDE", RowRanks.OUTSIDE, -1000000002);
        Runs.due("NOT", RowRanks.NOT, -1000000003);
        Runs.due("FULL", RowRanks.FULL, -1000000004);
        int count = 0;
        for (Field field : RowRanks.class.getDeclaredFields()) {
            if (!Modifier.isPrivate(field.getModifiers())) {
                count++;
                boolean isConstant = field.getType() == int.class && Modifier.isPublic(field.getModifiers())
                    && Modifier.isStatic(field.getModifiers()) && Modifier.isFinal(field.getModifiers());
                Runs.due("constant " + field.getName(), isConstant ? 1 : 0, 1);
            }
        }
        Runs.due("number of constants", count, 5);
    }

    private static void methods() {
        TreeSet<String> found = new TreeSet<>();
        for (Method method : RowRanks.class.getDeclaredMethods()) {
            if (!isHidden(method)) {
                String types = Arrays.toString(method.getParameterTypes());
                found.add(method.getReturnType() + " " + method.getName() + "("
                    + types.substring(1, types.length() - 1) + ")" + (isPlain(method) ? "" : " not public"));
            }
        }
        if (!found.equals(new TreeSet<>(Arrays.asList(METHODS)))) {
            Runs.fault("the methods are " + found);
        }
    }

    private static boolean isHidden(Member member) {
        return Modifier.isPrivate(member.getModifiers()) || member.isSynthetic();
    }

    private static boolean isPlain(Method method) {
        return Modifier.isPublic(method.getModifiers()) && !Modifier.isStatic(method.getModifiers());
    }

    private static void classItself() {
        int modifiers = RowRanks.class.getModifiers();
        Runs.due("public final class", Modifier.isPublic(modifiers) && Modifier.isFinal(modifiers) ? 1 : 0, 1);
        Runs.due("no package", RowRanks.class.getPackageName().length(), 0);
        int constructors = 0;
        for (Constructor<?> constructor : RowRanks.class.getDeclaredConstructors()) {
            if (!isHidden(constructor)) {
                constructors++;
                Runs.due("public constructor", Modifier.isPublic(constructor.getModifiers()) ? 1 : 0, 1);
                Runs.due("parameters of the constructor", constructor.getParameterCount(), 0);
            }
        }
        Runs.due("constructors", constructors, 1);
    }
}
