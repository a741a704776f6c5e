import java.lang.reflect.Constructor;
import java.lang.reflect.Field;
import java.lang.reflect.Method;
import java.lang.reflect.Modifier;
import java.util.ArrayList;
import java.util.Arrays;
import java.util.Collections;
import java.util.List;

/** "The public face": the class has the face of the document and no more of it. */
final class FaceTest {
    private static final String INDEX = "IndexOutOfBoundsException";
    private static final String ARGUMENT = "IllegalArgumentException";
    private static final String STATE = "IllegalStateException";
    private static final String[] METHODS = {
        "area(int,int) throws " + INDEX,
        "ballast(int) throws " + ARGUMENT,
        "bend(int) throws " + INDEX,
        "change(int,int,int) throws " + INDEX + ", " + ARGUMENT,
        "day()",
        "draught()",
        "fair(int,int) throws " + INDEX + ", " + ARGUMENT + ", " + STATE,
        "half(int,int) throws " + INDEX,
        "launch() throws " + STATE,
        "needed()",
        "offset(int,int,int) throws " + INDEX + ", " + ARGUMENT + ", " + STATE,
        "pass(int) throws " + ARGUMENT + ", " + STATE,
        "plankOf(int,boolean) throws " + INDEX,
        "planks(int) throws " + ARGUMENT,
        "sill(int) throws " + ARGUMENT,
        "strake(int) throws " + INDEX,
        "tide(int,int) throws " + ARGUMENT + ", " + STATE,
        "trim()",
        "volume(int) throws " + INDEX,
        "volumeAnew(int) throws " + INDEX,
        "weigh(int,int) throws " + INDEX + ", " + ARGUMENT + ", " + STATE};

    public static void main(String[] args) {
        Check check = new Check();
        int open = Modifier.PUBLIC | Modifier.FINAL;
        check.due("public and final", FairBatten.class.getModifiers(), open);
        check.due("NONE", FairBatten.NONE, -1);
        check.due("the methods", names().toString(), Arrays.asList(METHODS).toString());
        Constructor<?>[] made = FairBatten.class.getDeclaredConstructors();
        check.due("constructors", made.length, 1);
        check.due("its parameters", made[0].getParameterCount(), 0);
        check.due("what it throws", made[0].getExceptionTypes().length, 0);
        check.due("public", made[0].getModifiers(), Modifier.PUBLIC);
        for (Field field : FairBatten.class.getDeclaredFields()) {
            boolean none = field.getName().equals("NONE") && field.getType() == int.class
                    && field.getModifiers() == (open | Modifier.STATIC);
            check.due("hidden: " + field.getName(), none || Modifier.isPrivate(field.getModifiers()) ? 1 : 0, 1);
        }
        for (Class<?> inside : FairBatten.class.getDeclaredClasses()) {
            boolean hidden = !Modifier.isPublic(inside.getModifiers());
            check.due("hidden: " + inside.getName(), hidden ? 1 : 0, 1);
            for (Method method : inside.getDeclaredMethods()) {
                check.due("its own name: " + method, isOfFace(method.getName()) ? 1 : 0, 0);
            }
        }
        check.finish("FaceTest");
    }

    private static boolean isOfFace(String name) {
        for (String method : METHODS) {
            if (method.startsWith(name + "(")) {
                return true;
            }
        }
        return false;
    }

    /** All methods that are not private, and the private ones that bear the name of a public one. */
    static List<String> names() {
        List<String> names = new ArrayList<>();
        for (Method method : FairBatten.class.getDeclaredMethods()) {
            if (Modifier.isPrivate(method.getModifiers()) && !isOfFace(method.getName())) {
                continue;
            }
            boolean due = method.getModifiers() == Modifier.PUBLIC && method.getReturnType() == int.class;
            String thrown = listed(method.getExceptionTypes(), ", ");
            names.add((due ? "" : "not as due: ") + method.getName()
                    + "(" + listed(method.getParameterTypes(), ",") + ")"
                    + (thrown.isEmpty() ? "" : " throws " + thrown));
        }
        Collections.sort(names);
        return names;
    }

    private static String listed(Class<?>[] types, String between) {
        List<String> names = new ArrayList<>();
        for (Class<?> type : types) {
            names.add(type.getSimpleName());
        }
        return String.join(between, names);
    }
}
