import java.nio.file.Files;
import java.nio.file.Path;
import java.util.ArrayList;
import java.util.HashMap;
import java.util.HashSet;
import java.util.List;
import java.util.Map;
import java.util.Set;
import java.util.TreeSet;
import java.util.regex.Matcher;
import java.util.regex.Pattern;

/** Those rules of LANGUAGE.md that can be seen in the text of the class. Is run from the project's folder. */
public final class LanguageTest {
    private static final Path SOURCE = Path.of("src/main/java/RiverProof.java");
    private static final Pattern METHOD = Pattern.compile(
        "\\n( {4}| {8})((?:public |private |static |final )*)([\\w\\[\\]]+ )?(\\w+)\\(([^()]*)\\) \\{\\n(.*?)\\n\\1\\}", Pattern.DOTALL);
    private static final Set<String> LIBRARY = Set.of("Arrays.fill", "Arrays.copyOf", "System.arraycopy",
        "Integer.bitCount", "Math.min", "Math.max", "Math.abs");
    private static final String[] RULED_OUT = {"throw", "throws", "try", "catch", "synchronized", "assert", "protected",
        "double", "float", "volatile", "transient", "native", "package", "Object", "Thread", "hashCode", "toString"};

    private final Due due = new Due("language");
    private final String code;
    /** By a method's name: the names that it calls. Two methods of one name count as one, which is on the safe side. */
    private final Map<String, Set<String>> calls = new HashMap<>();

    private LanguageTest(String source) {
        due.eq("signs are 1 to 127", true, source.chars().allMatch(c -> c > 0 && c < 128));
        code = source.replaceAll("(?s)/\\*.*?\\*/", "").replaceAll("//[^\\n]*", "")
            .replaceAll("\"[^\"\\n]*\"", "WORD").replaceAll("'[^']'", "SIGN_");
    }

    public static void main(String[] args) throws Exception {
        LanguageTest test = new LanguageTest(Files.readString(SOURCE));
        test.words();
        test.library();
        test.fields();
        test.methods();
        test.depth();
        test.due.end();
    }

    private void words() {
        for (String word : RULED_OUT) {
            due.eq("there is a " + word, false, Pattern.compile("\\b" + word + "\\b").matcher(code).find());
        }
        due.eq("lambda", false, code.contains("->"));
        due.eq("method reference", false, code.contains("::"));
        due.eq("static block", false, Pattern.compile("static\\s*\\{").matcher(code).find());
        due.eq("imports", List.of("import java.util.Arrays;"), all("import [^;]*;"));
        due.eq("classes", true, all("\\bclass \\w+").size() <= 12);
        due.eq("inner classes are static", all("\\bclass \\w+").size() - 1, all("private static final class \\w+").size());
    }

    private void library() {
        Set<String> used = new TreeSet<>(all("\\b(?:Arrays|System|Integer|Long|Math)\\.\\w+"));
        used.removeAll(LIBRARY);
        due.eq("the library beside what is allowed", Set.of(), used);
        Set<String> made = new TreeSet<>(all("\\bnew \\w+"));
        made.removeAll(Set.of("new int", "new Row", "new Slot", "new River", "new Tape", "new Text"));
        due.eq("made beside own classes and rows", Set.of(), made);
    }

    private void fields() {
        for (String line : code.split("\\n")) {
            if (line.matches("\\s+(public |private )?static [^()]*;?") && line.contains("=")) {
                due.eq(line.trim() + " is final", true, line.contains("static final"));
            }
        }
    }

    private void methods() {
        Matcher m = METHOD.matcher(code);
        Set<String> open = new HashSet<>();
        List<String> hidden = new ArrayList<>();
        int found = 0;
        while (m.find()) {
            found++;
            String name = m.group(4);
            due.eq(name + " has at most sixty lines", true, m.group(6).split("\\n").length <= 60);
            due.eq(name + " has at most seven parameters", true, m.group(5).split(",").length <= 7);
            if (m.group(2).contains("public")) {
                open.add(name);
            } else {
                hidden.add(name);
            }
            Set<String> called = calls.computeIfAbsent(name, n -> new HashSet<>());
            Matcher call = Pattern.compile("(\\w+)\\(").matcher(m.group(6));
            while (call.find()) {
                called.add(call.group(1));
            }
        }
        due.eq("methods were found", true, found > 90);
        for (String name : hidden) {
            due.eq(name + " is the name of a public method", false, open.contains(name));
        }
    }

    private void depth() {
        for (String name : new TreeSet<>(calls.keySet())) {
            int deep = deep(name, new HashSet<>());
            due.eq(name + " goes at most eight deep: " + deep, true, deep <= 8);
        }
    }

    /** How many calls stand open at once below and with this one; a method that is open already is recursion. */
    private int deep(String name, Set<String> open) {
        if (!calls.containsKey(name) || !open.add(name)) {
            return 0;
        }
        int most = 0;
        for (String called : calls.get(name)) {
            most = Math.max(most, deep(called, open));
        }
        open.remove(name);
        return 1 + most;
    }

    private List<String> all(String pattern) {
        List<String> found = new ArrayList<>();
        Matcher m = Pattern.compile(pattern).matcher(code);
        while (m.find()) {
            found.add(m.group());
        }
        return found;
    }
}
