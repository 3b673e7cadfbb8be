import java.lang.reflect.Constructor;
import java.lang.reflect.Field;
import java.lang.reflect.Method;
import java.lang.reflect.Modifier;
import java.util.ArrayList;
import java.util.Arrays;
import java.util.Collections;
import java.util.List;
import java.util.TreeSet;

/** "The public face": all of it, each call as its promise has it too, and nothing else that others could see. */
final class FaceTest {
    private static final int FIRST_PROMISE = 2;
    /** The calls of promise 2 and of those behind it, in order. */
    private static final String[] CALLS = {
        "int type(long bytes, int n)",
        "int value(int kind)",
        "int integer(long v)",
        "int real(long bits, int wide)",
        "int name()",
        "int end()",
        "int drop()",
        "int write(int flags)",
        "int written(int k)",
        "int load(long bytes, int n)",
        "int loop()",
        "int read()",
        "int place()",
        "int item(int i, int what)",
        "long number(int i)",
        "int byteOf(int i, int k)",
        "int count(int what)",
        "int check()",
    };

    private FaceTest() {
    }

    public static void main(String[] args) {
        theClass();
        constants();
        constructor();
        calls();
        nothingElse();
        namesOfPublicOnes();
        Probe.finish();
    }

    private static void theClass() {
        Probe.sentence("The public face", "public final class GrinCoder {");
        Class<?> face = GrinCoder.class;
        Probe.due("public and final", Modifier.toString(face.getModifiers()), "public final");
        Probe.due("its name, without a package", face.getName(), "GrinCoder");
        Probe.due("what it extends", face.getSuperclass().getName(), "java.lang.Object");
        Probe.due("what it implements", face.getInterfaces().length, 0);
    }

    private static void constants() {
        Probe.sentence("The public face", "public static final int NONE = -1;");
        Probe.due("NONE", GrinCoder.NONE, -1);
        Probe.sentence("The public face", "public static final int FULL = -2;");
        Probe.due("FULL", GrinCoder.FULL, -2);
    }

    private static void constructor() {
        Probe.sentence("The public face", "public GrinCoder();");
        Constructor<?>[] all = GrinCoder.class.getDeclaredConstructors();
        Probe.due("constructors", all.length, 1);
        Probe.due("the constructor", all[0].toString(), "public GrinCoder()");
    }

    private static void calls() {
        for (int k = 0; k < CALLS.length; k++) {
            String name = CALLS[k].replaceAll(".* (\\w+)\\(.*", "$1");
            Probe.sentence("The public face", "public " + CALLS[k] + ";");
            Probe.due("calls of this name", declared(name), shown(CALLS[k]));
            Probe.sentence("Promise " + (FIRST_PROMISE + k), "`" + CALLS[k] + "`:");
            Probe.due("calls of this name", declared(name), shown(CALLS[k]));
        }
    }

    /** Every method of the class that bears a name. */
    private static String declared(String name) {
        List<String> all = new ArrayList<>();
        for (Method m : GrinCoder.class.getDeclaredMethods()) {
            if (m.getName().equals(name)) {
                all.add(m.toGenericString());
            }
        }
        return String.join("; ", all);
    }

    /** A call of the document as Java tells it: without the names of what it is given. */
    private static String shown(String call) {
        return "public " + call.replaceAll(" (\\w+)\\(", " GrinCoder.$1(").replaceAll("(int|long) \\w+([,)])", "$1$2")
            .replace(", ", ",");
    }

    private static void nothingElse() {
        List<String> due = new ArrayList<>();
        due.add("public GrinCoder()");
        due.add("public static final int GrinCoder.NONE");
        due.add("public static final int GrinCoder.FULL");
        for (String call : CALLS) {
            due.add(shown(call));
        }
        List<String> seen = new ArrayList<>();
        for (Constructor<?> c : GrinCoder.class.getDeclaredConstructors()) {
            addVisible(seen, c.getModifiers(), c.toString());
        }
        for (Field f : GrinCoder.class.getDeclaredFields()) {
            addVisible(seen, f.getModifiers(), f.toString());
        }
        for (Method m : GrinCoder.class.getDeclaredMethods()) {
            addVisible(seen, m.getModifiers(), m.toString());
        }
        Collections.sort(due);
        Collections.sort(seen);
        Probe.due("all that others can see", String.join("\n  ", seen), String.join("\n  ", due));
    }

    private static void addVisible(List<String> seen, int modifiers, String text) {
        if (!Modifier.isPrivate(modifiers)) {
            seen.add(text);
        }
    }

    /** A rule of the language: none of the class's own methods is named as one of the face. */
    private static void namesOfPublicOnes() {
        TreeSet<String> publicNames = new TreeSet<>();
        for (Method m : GrinCoder.class.getMethods()) {
            publicNames.add(m.getName());
        }
        List<Class<?>> all = new ArrayList<>(Arrays.asList(GrinCoder.class.getDeclaredClasses()));
        for (Class<?> inside : all) {
            Probe.due(inside + " is static", Modifier.isStatic(inside.getModifiers()) ? 1 : 0, 1);
        }
        all.add(GrinCoder.class);
        for (Class<?> inside : all) {
            for (Method m : inside.getDeclaredMethods()) {
                boolean shared = !Modifier.isPublic(m.getModifiers()) && publicNames.contains(m.getName());
                Probe.due(m + " bears the name of a public one", shared ? 1 : 0, 0);
            }
        }
    }
}
