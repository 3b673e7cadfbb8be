import java.lang.reflect.Constructor;
import java.lang.reflect.Field;
import java.lang.reflect.Method;
import java.lang.reflect.Modifier;
import java.util.ArrayList;
import java.util.Collections;
import java.util.List;
import java.util.TreeSet;

/** The document's public face, and nothing else that others could see. */
final class FaceTest {
    private static final String[] FACE = {
        "public GrinCoder()",
        "public int GrinCoder.byteOf(int,int)",
        "public int GrinCoder.check()",
        "public int GrinCoder.count(int)",
        "public int GrinCoder.drop()",
        "public int GrinCoder.end()",
        "public int GrinCoder.integer(long)",
        "public int GrinCoder.item(int,int)",
        "public int GrinCoder.load(long,int)",
        "public int GrinCoder.loop()",
        "public int GrinCoder.name()",
        "public int GrinCoder.place()",
        "public int GrinCoder.read()",
        "public int GrinCoder.real(long,int)",
        "public int GrinCoder.type(long,int)",
        "public int GrinCoder.value(int)",
        "public int GrinCoder.write(int)",
        "public int GrinCoder.written(int)",
        "public long GrinCoder.number(int)",
        "public static final int GrinCoder.FULL",
        "public static final int GrinCoder.NONE",
    };

    public static void main(String[] args) {
        List<String> seen = new ArrayList<>();
        TreeSet<String> publicNames = new TreeSet<>();
        for (Constructor<?> c : GrinCoder.class.getDeclaredConstructors()) {
            addVisible(seen, c.getModifiers(), c.toString());
        }
        for (Field f : GrinCoder.class.getDeclaredFields()) {
            addVisible(seen, f.getModifiers(), f.toString());
        }
        for (Method m : GrinCoder.class.getDeclaredMethods()) {
            addVisible(seen, m.getModifiers(), m.toString());
            if (Modifier.isPublic(m.getModifiers())) {
                publicNames.add(m.getName());
            }
        }
        Collections.sort(seen);
        Probe.due("the face", String.join("\n", seen), String.join("\n", FACE));
        Probe.due("NONE", GrinCoder.NONE, -1);
        Probe.due("FULL", GrinCoder.FULL, -2);
        int modifiers = GrinCoder.class.getModifiers();
        Probe.due("public and final", Modifier.toString(modifiers), "public final");
        noneShareNames(GrinCoder.class, publicNames);
        for (Class<?> inside : GrinCoder.class.getDeclaredClasses()) {
            noneShareNames(inside, publicNames);
            Probe.due(inside + " is static", Modifier.isStatic(inside.getModifiers()) ? 1 : 0, 1);
        }
        Probe.finish();
    }

    private static void addVisible(List<String> seen, int modifiers, String text) {
        if (!Modifier.isPrivate(modifiers)) {
            seen.add(text);
        }
    }

    private static void noneShareNames(Class<?> inside, TreeSet<String> publicNames) {
        for (Method m : inside.getDeclaredMethods()) {
            if (!Modifier.isPublic(m.getModifiers()) && publicNames.contains(m.getName())) {
                Probe.due(m + " bears the name of a public one", 1, 0);
            }
        }
    }
}
