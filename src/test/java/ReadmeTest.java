import java.lang.reflect.Field;
import java.lang.reflect.Method;
import java.lang.reflect.Modifier;
import java.nio.file.Files;
import java.nio.file.Path;
import java.util.Arrays;
import java.util.regex.Matcher;
import java.util.regex.Pattern;
import java.util.stream.Collectors;

/** The README says what is so: its example is run row by row. Is run from the project's folder. */
public final class ReadmeTest {
    private static final Pattern ROW = Pattern.compile("river\\.(\\w+)\\(([^)]*)\\);\\s*// (-?\\w+)");
    private static final Pattern EXAMPLE = Pattern.compile("```java\\n(.*?)\\n```", Pattern.DOTALL);

    private ReadmeTest() {
    }

    public static void main(String[] args) throws Exception {
        String readme = Files.readString(Path.of("README.md"));
        Due due = new Due("readme");
        example(due, readme);
        names(due, readme);
        due.end();
    }

    private static void example(Due due, String readme) {
        Matcher block = EXAMPLE.matcher(readme);
        due.eq("there is an example", true, block.find());
        String[] rows = block.group(1).split("\\n");
        due.eq("its first row", "RiverProof river = new RiverProof();", rows[0]);
        RiverProof river = new RiverProof();
        for (String text : Arrays.asList(rows).subList(1, rows.length)) {
            Matcher row = ROW.matcher(text);
            due.eq(text + " is a call with its answer", true, row.lookingAt());
            due.eq(text, number(row.group(3)), Edges.call(river, words(row.group(1), row.group(2))));
        }
    }

    private static String words(String name, String arguments) {
        if (arguments.isEmpty()) {
            return name;
        }
        return name + " " + Arrays.stream(arguments.split(", ")).map(a -> String.valueOf(number(a))).collect(Collectors.joining(" "));
    }

    private static int number(String word) {
        return word.startsWith("0x") ? Integer.decode(word) : Edges.number(word.replace("RiverProof.", ""));
    }

    private static void names(Due due, String readme) {
        for (Method m : RiverProof.class.getDeclaredMethods()) {
            if (Modifier.isPublic(m.getModifiers())) {
                due.eq(m.getName() + " is named", true, readme.contains("`" + m.getName() + "`"));
            }
        }
        for (Field f : RiverProof.class.getDeclaredFields()) {
            if (Modifier.isPublic(f.getModifiers())) {
                due.eq(f.getName() + " is named", true, readme.contains("| `" + f.getName() + "` |"));
            }
        }
    }
}
