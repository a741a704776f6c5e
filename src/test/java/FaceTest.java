import java.lang.reflect.Constructor;
import java.lang.reflect.Field;
import java.lang.reflect.Method;
import java.lang.reflect.Modifier;
import java.util.ArrayList;
import java.util.Arrays;
import java.util.Collections;
import java.util.List;

/** The class has the face of the document and no more of it. */
final class FaceTest {
    private static final String[] METHODS = {
        "area(int,int)", "ballast(int)", "bend(int)", "change(int,int,int)", "day()", "draught()",
        "fair(int,int)", "half(int,int)", "launch()", "needed()", "offset(int,int,int)", "pass(int)",
        "plankOf(int,boolean)", "planks(int)", "sill(int)", "strake(int)", "tide(int,int)", "trim()",
        "volume(int)", "volumeAnew(int)", "weigh(int,int)"};

    public static void main(String[] args) {
        Check check = new Check();
        check.due("public and final", FairBatten.class.getModifiers(), Modifier.PUBLIC | Modifier.FINAL);
        check.due("NONE", FairBatten.NONE, -1);
        check.due("the methods", names().toString(), Arrays.asList(METHODS).toString());
        Constructor<?>[] made = FairBatten.class.getDeclaredConstructors();
        check.due("constructors", made.length, 1);
        check.due("its parameters", made[0].getParameterCount(), 0);
        check.due("public", made[0].getModifiers(), Modifier.PUBLIC);
        for (Field field : FairBatten.class.getDeclaredFields()) {
            boolean ours = Modifier.isPrivate(field.getModifiers()) || field.getName().equals("NONE");
            check.due("hidden: " + field.getName(), ours ? 1 : 0, 1);
        }
        for (Class<?> inside : FairBatten.class.getDeclaredClasses()) {
            boolean hidden = !Modifier.isPublic(inside.getModifiers());
            check.due("hidden: " + inside.getName(), hidden ? 1 : 0, 1);
            for (Method method : inside.getDeclaredMethods()) {
                check.due("its own name: " + method, isOfFace(method.getName()) ? 1 : 0, 0);
            }
        }
        check.finish("FaceTest");
    }

    private static boolean isOfFace(String name) {
        for (String method : METHODS) {
            if (method.startsWith(name + "(")) {
                return true;
            }
        }
        return false;
    }

    /** All methods that are not private, and the private ones that bear the name of a public one. */
    private static List<String> names() {
        List<String> names = new ArrayList<>();
        for (Method method : FairBatten.class.getDeclaredMethods()) {
            if (Modifier.isPrivate(method.getModifiers()) && !isOfFace(method.getName())) {
                continue;
            }
            List<String> types = new ArrayList<>();
            for (Class<?> type : method.getParameterTypes()) {
                types.add(type.getName());
            }
            boolean due = Modifier.isPublic(method.getModifiers()) && method.getReturnType() == int.class;
            names.add((due ? "" : "not as due: ") + method.getName() + "(" + String.join(",", types) + ")");
        }
        Collections.sort(names);
        return names;
    }
}
