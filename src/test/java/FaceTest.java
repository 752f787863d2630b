import java.lang.reflect.Constructor;
import java.lang.reflect.Field;
import java.lang.reflect.Method;
import java.lang.reflect.Modifier;
import java.util.Arrays;
import java.util.TreeSet;

/** The public face has just the members of the document, and nothing else can be seen from outside. */
public final class FaceTest {
    private static final String[] FACE = {
        "public BlindTables()",
        "public static final int BlindTables.NONE",
        "public static final int BlindTables.ROOM",
        "public boolean BlindTables.add(int,int,int,int)",
        "public int BlindTables.rows(int)",
        "public boolean BlindTables.plan(int)",
        "public boolean BlindTables.filter(int,int,int)",
        "public boolean BlindTables.pick(int,int,int)",
        "public boolean BlindTables.distinct()",
        "public boolean BlindTables.group(int,int)",
        "public boolean BlindTables.join(int,int,int)",
        "public int BlindTables.run()",
        "public boolean BlindTables.put(int,int,int)",
        "public boolean BlindTables.drop(int)",
        "public int BlindTables.apply(int)",
        "public int BlindTables.cell(int,int)",
        "public int BlindTables.length()",
        "public int BlindTables.access(int)",
        "public int BlindTables.sum(int)",
    };

    public static void main(String[] args) {
        Check.due("members", seen().toString(), new TreeSet<>(Arrays.asList(FACE)).toString());
        Check.due("modifiers", Modifier.toString(BlindTables.class.getModifiers()), "public final");
        Check.due("NONE", BlindTables.NONE, -1);
        Check.due("ROOM", BlindTables.ROOM, -2);
        noPrivateNamesake();
        noStaticState();
        Check.end();
    }

    private static TreeSet<String> seen() {
        TreeSet<String> seen = new TreeSet<>();
        for (Constructor<?> c : BlindTables.class.getDeclaredConstructors()) {
            note(seen, c.getModifiers(), c.toString());
        }
        for (Method m : BlindTables.class.getDeclaredMethods()) {
            note(seen, m.getModifiers(), m.toString());
        }
        for (Field f : BlindTables.class.getDeclaredFields()) {
            note(seen, f.getModifiers(), f.toString());
        }
        return seen;
    }

    private static void note(TreeSet<String> seen, int modifiers, String member) {
        if (!Modifier.isPrivate(modifiers)) {
            seen.add(member);
        }
    }

    private static void noPrivateNamesake() {
        TreeSet<String> names = new TreeSet<>();
        for (Method m : BlindTables.class.getDeclaredMethods()) {
            if (Modifier.isPublic(m.getModifiers())) {
                names.add(m.getName());
            }
        }
        for (Method m : BlindTables.class.getDeclaredMethods()) {
            if (Modifier.isPrivate(m.getModifiers())) {
                Check.due("namesake of " + m.getName(), names.contains(m.getName()), false);
            }
        }
    }

    private static void noStaticState() {
        noStaticState(BlindTables.class);
        for (Class<?> inside : BlindTables.class.getDeclaredClasses()) {
            Check.due(inside + " is static", Modifier.isStatic(inside.getModifiers()), true);
            Check.due(inside + " is public", Modifier.isPublic(inside.getModifiers()), false);
            Check.due(inside + " is protected", Modifier.isProtected(inside.getModifiers()), false);
            noStaticState(inside);
        }
    }

    private static void noStaticState(Class<?> one) {
        for (Field f : one.getDeclaredFields()) {
            int m = f.getModifiers();
            Check.due(f + " is changing static state", Modifier.isStatic(m) && !Modifier.isFinal(m), false);
        }
    }
}
