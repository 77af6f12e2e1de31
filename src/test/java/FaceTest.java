import java.lang.reflect.Constructor;
import java.lang.reflect.Field;
import java.lang.reflect.Method;
import java.lang.reflect.Modifier;
import java.util.TreeSet;

/** The public face: the document's constants, constructor and methods, and nothing else. */
public final class FaceTest {
    public static void main(String[] args) {
        constants();
        members();
        Due.end();
    }

    private static void constants() {
        Due.due("UNKNOWN", GateTimes.UNKNOWN, -101);
        Due.due("OUTSIDE", GateTimes.OUTSIDE, -102);
        Due.due("ROOM", GateTimes.ROOM, -104);
    }

    private static void members() {
        TreeSet<String> found = new TreeSet<>();
        for (Field field : GateTimes.class.getDeclaredFields()) {
            if (!Modifier.isPrivate(field.getModifiers())) {
                found.add(field.toString());
            }
        }
        for (Constructor<?> constructor : GateTimes.class.getDeclaredConstructors()) {
            found.add(constructor.toString());
        }
        for (Method method : GateTimes.class.getDeclaredMethods()) {
            if (!Modifier.isPrivate(method.getModifiers())) {
                found.add(method.toString());
            }
        }
        TreeSet<String> wanted = new TreeSet<>();
        wanted.add("public GateTimes(int)");
        String[] constants = {"UNKNOWN", "OUTSIDE", "ROOM"};
        for (String name : constants) {
            wanted.add("public static final int GateTimes." + name);
        }
        String[] methods = {"item(long,long)", "order(int,int,long)", "step(long)", "out(int,int)",
            "height(int,int)", "swap(int)", "stuck(int,boolean)", "late(int)", "count(int)",
            "verify(int,int)"};
        for (String method : methods) {
            wanted.add("public int GateTimes." + method);
        }
        if (!found.equals(wanted)) {
            System.out.println("found " + found + ", due is " + wanted);
        }
        Due.due("members that are as due", found.equals(wanted) ? 1 : 0, 1);
        Due.due("the class is public and final", GateTimes.class.getModifiers(),
            Modifier.PUBLIC | Modifier.FINAL);
    }
}
