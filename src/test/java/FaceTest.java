import java.lang.reflect.Constructor;
import java.lang.reflect.Field;
import java.lang.reflect.Method;
import java.lang.reflect.Modifier;
import java.util.Set;
import java.util.TreeSet;

/** The public face: just the members that the document names. */
public final class FaceTest {
    private static final Set<String> FACE = Set.of(
        "wagon/2", "couple/2", "stand/2", "signal/2", "wagonAt/2", "load/3", "cut/2", "hoot/2", "pull/2",
        "loadAs/3", "rake/3", "drop/1", "lay/2", "places/1", "loadOn/2", "table/3", "add/4", "raise/1",
        "told/1", "about/2", "onRake/2");

    private static final Set<String> CONSTANTS = Set.of("NONE", "UNKNOWN", "OUTSIDE", "STATE", "ROOM");

    public static void main(String[] args) {
        methods();
        fieldsAndConstructors();
        constants();
        Check.end();
    }

    private static void methods() {
        Set<String> seen = new TreeSet<>();
        for (Method m : WagonSidings.class.getDeclaredMethods()) {
            if (!Modifier.isPrivate(m.getModifiers()) && !m.isSynthetic()) {
                seen.add(m.getName() + "/" + m.getParameterCount());
                Check.due(m + " public", Modifier.isPublic(m.getModifiers()) ? 1 : 0, 1);
                Check.due(m + " int", m.getReturnType() == int.class ? 1 : 0, 1);
            } else if (FACE.stream().anyMatch(f -> f.startsWith(m.getName() + "/"))) {
                Check.due("private method named as a public one: " + m, 1, 0);
            }
        }
        Check.due("methods of the face, seen " + seen, seen.equals(new TreeSet<>(FACE)) ? 1 : 0, 1);
    }

    private static void fieldsAndConstructors() {
        Set<String> seen = new TreeSet<>();
        for (Field f : WagonSidings.class.getDeclaredFields()) {
            if (!Modifier.isPrivate(f.getModifiers())) {
                seen.add(f.getName());
            }
            if (Modifier.isStatic(f.getModifiers())) {
                Check.due(f + " final", Modifier.isFinal(f.getModifiers()) ? 1 : 0, 1);
            }
        }
        Check.due("fields of the face, seen " + seen, seen.equals(new TreeSet<>(CONSTANTS)) ? 1 : 0, 1);
        Constructor<?>[] made = WagonSidings.class.getDeclaredConstructors();
        Check.due("constructors", made.length, 1);
        Check.due("constructor public", Modifier.isPublic(made[0].getModifiers()) ? 1 : 0, 1);
        int modifiers = WagonSidings.class.getModifiers();
        Check.due("class public final", Modifier.isPublic(modifiers) && Modifier.isFinal(modifiers) ? 1 : 0, 1);
    }

    private static void constants() {
        Check.due("NONE", WagonSidings.NONE, -1);
        Check.due("UNKNOWN", WagonSidings.UNKNOWN, -101);
        Check.due("OUTSIDE", WagonSidings.OUTSIDE, -102);
        Check.due("STATE", WagonSidings.STATE, -103);
        Check.due("ROOM", WagonSidings.ROOM, -104);
    }
}
