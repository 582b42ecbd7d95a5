import java.lang.reflect.Constructor;
import java.lang.reflect.Field;
import java.lang.reflect.Method;
import java.lang.reflect.Modifier;
import java.nio.charset.StandardCharsets;
import java.nio.file.Files;
import java.nio.file.Path;
import java.util.IdentityHashMap;
import java.util.List;
import java.util.Map;
import java.util.Set;
import java.util.TreeSet;

/** The face of the document, and the members of all classes; RulesTest looks into the methods. */
public final class LanguageTest {
    private static final Checks C = new Checks();
    private static final Set<String> FACE = new TreeSet<>(List.of(
        "row/3", "set/3", "copy/5", "drop/1", "feed/1", "land/0", "fault/0", "undo/0", "days/1", "carry/2", "nail/2",
        "keepIn/2", "call/2", "move/2", "person/2", "thing/2", "ahead/2", "liveAhead/1", "dies/1", "keepDays/4",
        "nails/3", "names/2", "safest/1", "meet/2", "fatal/1", "called/4", "who/4", "steps/4", "namesakes/1",
        "still/3", "life/0", "drawn/3", "image/1", "restore/1", "kind/1", "as/2", "ask/2", "trace/1", "count/1",
        "status/0"));

    public static void main(String[] args) throws Exception {
        face();
        members(NextNames.class);
        for (Class<?> inside : NextNames.class.getDeclaredClasses()) {
            C.holds(inside + " is static", Modifier.isStatic(inside.getModifiers()));
            members(inside);
        }
        String text = Files.readString(Path.of("src/main/java/NextNames.java"), StandardCharsets.ISO_8859_1);
        C.holds("signs 1 to 127 alone", text.chars().allMatch(c -> c > 0 && c < 128));
        room();
        C.end();
    }

    private static void face() {
        Set<String> seen = new TreeSet<>();
        for (Method m : NextNames.class.getDeclaredMethods()) {
            if (Modifier.isPublic(m.getModifiers())) {
                seen.add(m.getName() + "/" + m.getParameterCount());
                C.holds(m + " answers as told", m.getReturnType() == (m.getName().equals("still") ? long.class : int.class));
            } else {
                C.holds(m + " is private", Modifier.isPrivate(m.getModifiers()));
            }
        }
        C.holds("the face is " + seen, seen.equals(FACE));
        Set<String> constants = new TreeSet<>();
        for (Field f : NextNames.class.getDeclaredFields()) {
            if (!Modifier.isPrivate(f.getModifiers())) {
                constants.add(f.getName());
                C.holds(f + " is public, static and final", f.toString().startsWith("public static final int"));
            }
        }
        C.holds("the constants are " + constants, constants.equals(new TreeSet<>(List.of("NONE", "BAD", "STATE", "FULL"))));
        C.due("constructors", NextNames.class.getDeclaredConstructors().length, 1);
        C.holds("the class is final", Modifier.isFinal(NextNames.class.getModifiers()));
    }

    private static void members(Class<?> c) {
        int fields = 0;
        for (Field f : c.getDeclaredFields()) {
            boolean still = Modifier.isStatic(f.getModifiers());
            C.holds(f + ": a static field is final", !still || Modifier.isFinal(f.getModifiers()));
            fields += still ? 0 : 1;
        }
        C.holds(c + ": twenty fields at most", fields <= 20);
        for (Method m : c.getDeclaredMethods()) {
            C.holds(m + ": seven parameters at most", m.getParameterCount() <= 7);
            boolean named = FACE.stream().anyMatch(one -> one.startsWith(m.getName() + "/"));
            C.holds(m + ": no other bears a public name", !named || c == NextNames.class && Modifier.isPublic(m.getModifiers()));
        }
        for (Constructor<?> made : c.getDeclaredConstructors()) {
            C.holds(made + ": seven parameters at most", made.getParameterCount() <= 7);
        }
    }

    /** Rule 12: what an object holds is small, and calls add nothing to it (RulesTest: only constructors make objects). */
    private static void room() throws ReflectiveOperationException {
        Map<Object, Object> seen = new IdentityHashMap<>();
        int fields = walk(Checks.land("n9,4;t2,2;t7,0;w1,1,2;s0,3,1;"), seen);
        C.holds("400 objects at most, not " + seen.size(), seen.size() <= 400);
        C.holds("4000 fields and elements at most, not " + fields, fields <= 4000);
    }

    /** How many fields and elements there are in all that can be reached. */
    private static int walk(Object of, Map<Object, Object> seen) throws ReflectiveOperationException {
        if (of == null || seen.put(of, of) != null) {
            return 0;
        }
        if (of instanceof int[]) {
            return ((int[]) of).length;
        }
        int fields = 0;
        if (of instanceof Object[]) {
            for (Object one : (Object[]) of) {
                fields += 1 + walk(one, seen);
            }
            return fields;
        }
        for (Field f : of.getClass().getDeclaredFields()) {
            if (!Modifier.isStatic(f.getModifiers())) {
                f.setAccessible(true);
                fields += 1 + (f.getType().isPrimitive() ? 0 : walk(f.get(of), seen));
            }
        }
        return fields;
    }
}
