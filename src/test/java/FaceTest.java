import java.lang.reflect.Constructor;
import java.lang.reflect.Field;
import java.lang.reflect.Method;
import java.lang.reflect.Modifier;
import java.util.Arrays;
import java.util.Set;
import java.util.TreeSet;

/** The face is the document's, and nothing of the class beside it can be seen from outside. */
public final class FaceTest {
    private static final Check CHECK = new Check();
    private static final String[] FACE = {
        "boolean spring(int, int, int, int, int)", "boolean bath(int, int, boolean)", "boolean rate(int, int)",
        "int feed(int, int, int, int, int)", "boolean end(int)", "int load()", "int fault(int)",
        "int guest(int, int, int, int, int)", "boolean leave(int, int)", "int look(int)", "int plan(int, int, int)",
        "int taken(int, int, int)", "int best(int, int)", "boolean keep(boolean)", "int next()", "int water(int, int)",
        "int bottles(int, int)", "int sell(int)", "int bill(int, int)"};

    public static void main(String[] args) {
        CHECK.due("NONE", CureTown.NONE, -1);
        CHECK.due("the class is public and final",
            Modifier.isPublic(CureTown.class.getModifiers()) && Modifier.isFinal(CureTown.class.getModifiers()), true);
        methods();
        fields();
        constructors();
        classesInside();
        CHECK.finish();
    }

    private static void methods() {
        Set<String> due = new TreeSet<>(Arrays.asList(FACE));
        Set<String> names = new TreeSet<>();
        for (String method : FACE) {
            names.add(method.substring(method.indexOf(' ') + 1, method.indexOf('(')));
        }
        for (Method m : CureTown.class.getDeclaredMethods()) {
            String types = Arrays.toString(m.getParameterTypes());
            String shown = m.getReturnType() + " " + m.getName() + "(" + types.substring(1, types.length() - 1) + ")";
            if (Modifier.isPrivate(m.getModifiers())) {
                CHECK.due("private " + m.getName() + " bears a public name", names.contains(m.getName()), false);
            } else {
                CHECK.due(shown + " is public, and due once", Modifier.isPublic(m.getModifiers()) && due.remove(shown), true);
            }
        }
        CHECK.due("methods that are missing: " + due, due.size(), 0);
    }

    private static void fields() {
        for (Field f : CureTown.class.getDeclaredFields()) {
            boolean isNone = f.getName().equals("NONE");
            CHECK.due(f.getName() + " is private", Modifier.isPrivate(f.getModifiers()), !isNone);
            CHECK.due(f.getName() + " is public", Modifier.isPublic(f.getModifiers()), isNone);
            if (Modifier.isStatic(f.getModifiers())) {
                CHECK.due(f.getName() + " is final", Modifier.isFinal(f.getModifiers()), true);
            }
        }
    }

    private static void constructors() {
        Constructor<?>[] all = CureTown.class.getDeclaredConstructors();
        CHECK.due("constructors", all.length, 1);
        CHECK.due("it takes nothing", all[0].getParameterCount(), 0);
        CHECK.due("it is public", Modifier.isPublic(all[0].getModifiers()), true);
    }

    private static void classesInside() {
        Class<?>[] all = CureTown.class.getDeclaredClasses();
        CHECK.due("at most twelve classes in the file", all.length < 12, true);
        for (Class<?> c : all) {
            CHECK.due(c + " is static", Modifier.isStatic(c.getModifiers()), true);
            CHECK.due(c + " is not public", Modifier.isPublic(c.getModifiers()), false);
            int fields = 0;
            for (Field f : c.getDeclaredFields()) {
                fields += Modifier.isStatic(f.getModifiers()) ? 0 : 1;
            }
            CHECK.due(c + " has at most twenty fields", fields <= 20, true);
            for (Method m : c.getDeclaredMethods()) {
                CHECK.due(m + " takes at most seven", m.getParameterCount() <= 7, true);
            }
        }
    }
}
