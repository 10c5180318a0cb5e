import java.lang.reflect.Constructor;
import java.lang.reflect.Field;
import java.lang.reflect.Method;
import java.lang.reflect.Modifier;
import java.util.Arrays;
import java.util.TreeSet;

/** The public face: all that the document lists, and nothing beside it. */
public final class FaceTest {
    private static final String[] METHODS = {
        "pencil 3", "told 2", "as 2", "turns 2", "set 3", "water 2", "reachOf 2", "rule 2", "deal 1", "seed 1",
        "runs 0", "months 1", "river 1", "behind 2", "dries 1", "rises 2", "rub 1", "ink 3", "place 3", "becomes 3",
        "like 2", "fee 0", "fine 1", "feed 3", "trim 1", "text 0", "textTold 2", "why 1", "sheet 3", "mark 3",
        "pour 1", "reads 1", "copy 5", "lay 3", "ask 2", "item 2", "rest 2", "tell 1", "check 1", "keep 0",
        "back 0", "count 1"};
    private static final String[] CONSTANTS = {
        "BAD -1000000001", "NO -1000000002", "FULL -1000000003", "NONE -1000000005", "NOTHING -1000000011",
        "KIND -1000000012", "INDEX -1000000013", "SIZE -1000000014"};

    public static void main(String[] args) throws Exception {
        Due due = new Due("face");
        Class<?> face = RiverProof.class;
        due.eq("public final", Modifier.PUBLIC | Modifier.FINAL, face.getModifiers());
        due.eq("methods", new TreeSet<>(Arrays.asList(METHODS)), methods(due, face));
        due.eq("constants", new TreeSet<>(Arrays.asList(CONSTANTS)), constants(due, face));
        Constructor<?>[] makers = face.getDeclaredConstructors();
        due.eq("constructors", 1, makers.length);
        due.eq("constructor", "public RiverProof()", makers[0].toString());
        for (Class<?> inside : face.getDeclaredClasses()) {
            due.eq(inside + " is static", true, Modifier.isStatic(inside.getModifiers()));
            due.eq(inside + " is not public", false, Modifier.isPublic(inside.getModifiers()));
        }
        due.end();
    }

    private static TreeSet<String> methods(Due due, Class<?> face) {
        TreeSet<String> found = new TreeSet<>();
        TreeSet<String> hidden = new TreeSet<>();
        for (Method m : face.getDeclaredMethods()) {
            if (Modifier.isPrivate(m.getModifiers())) {
                hidden.add(m.getName());
                continue;
            }
            due.eq(m + " is public", Modifier.PUBLIC, m.getModifiers());
            due.eq(m + " answers an int", int.class, m.getReturnType());
            for (Class<?> type : m.getParameterTypes()) {
                due.eq(m + " takes ints", int.class, type);
            }
            found.add(m.getName() + " " + m.getParameterCount());
        }
        for (String name : found) {
            due.eq("no private method is called " + name, false, hidden.contains(name.split(" ")[0]));
        }
        return found;
    }

    private static TreeSet<String> constants(Due due, Class<?> face) throws Exception {
        TreeSet<String> found = new TreeSet<>();
        for (Field f : face.getDeclaredFields()) {
            if (!Modifier.isPrivate(f.getModifiers())) {
                due.eq(f + " is a constant", Modifier.PUBLIC | Modifier.STATIC | Modifier.FINAL, f.getModifiers());
                found.add(f.getName() + " " + f.getInt(null));
            }
        }
        return found;
    }
}
