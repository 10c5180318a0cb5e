import java.lang.reflect.Method;
import java.nio.charset.StandardCharsets;
import java.nio.file.Files;
import java.nio.file.Path;
import java.util.Arrays;
import java.util.HashMap;
import java.util.HashSet;
import java.util.Map;
import java.util.Set;
import java.util.regex.Matcher;
import java.util.regex.Pattern;

/**
 * What the tests of edges share. Each of them first says the sentence of the document that it holds the class to,
 * and then tells rows such as "pencil 0 100 0 = BAD" (a call and its answer) or "99* months 100" (99 calls whose
 * answers are not looked at). At the end each edge that the document names must stand in a sentence that was said.
 */
final class Edges {
    /** The parts of the document that are no promise: "What it is", and "Terms". */
    static final int WHAT_IT_IS = -1, TERMS = 0;
    private static final Path DOCUMENT = Path.of("../shared/DOC.md");
    /** The words by which the document names an edge. */
    private static final Pattern EDGE = Pattern.compile("-?\\d+ \\.\\. \\d+|\\bat (most|least|first)\\b|\\bheld\\b"
        + "|of several|\\bbound\\b|\\bBAD\\b|\\bNO\\b|\\bFULL\\b|\\bNONE\\b|\\bNOTHING\\b|\\bINDEX\\b|\\bSIZE\\b|KIND:"
        + "|\\bMISSING\\b|\\bFAULT\\b|\\bcuts?\\b|\\bwrap\\b|\\babove\\b|\\bbelow\\b|\\bninth\\b|more than|too soon"
        + "|too many|\\bfewer\\b|by 0\\b|\\bany\\b|\\broom\\b|\\bstays\\b|\\b1 to 4\\b|\\b0 to 24\\b");
    private static final Map<String, Integer> NAMED = Map.of("BAD", RiverProof.BAD, "NO", RiverProof.NO,
        "FULL", RiverProof.FULL, "NONE", RiverProof.NONE, "NOTHING", RiverProof.NOTHING, "KIND", RiverProof.KIND,
        "INDEX", RiverProof.INDEX, "SIZE", RiverProof.SIZE, "MIN", Integer.MIN_VALUE, "MAX", Integer.MAX_VALUE);
    private static final Map<String, Method> METHODS = new HashMap<>();

    static {
        for (Method m : RiverProof.class.getDeclaredMethods()) {
            METHODS.put(m.getName() + " " + m.getParameterCount(), m);
        }
    }

    final Due due = new Due("edges");
    private final String document;
    private final boolean[] said;
    private final Set<Integer> promises = new HashSet<>();
    private String sentence = "";

    Edges() throws Exception {
        // without the document only the answers are held to what is due
        document = Files.exists(DOCUMENT) ? oneLine(Files.readString(DOCUMENT)) : null;
        said = new boolean[document == null ? 0 : document.length()];
    }

    private static String oneLine(String text) {
        return text.replaceAll("\\s+", " ");
    }

    /** The next answers are what this sentence, of a promise or of another part of the document, asks for. */
    void says(int promise, String words) {
        sentence = words;
        promises.add(promise);
        if (document != null) {
            int from = document.indexOf(promise == WHAT_IT_IS ? "## What it is" : promise == TERMS ? "## Terms"
                : "## Promise " + promise + ": ");
            int to = document.indexOf("## ", from + 3);
            int at = document.indexOf(oneLine(words), from);
            boolean stands = from >= 0 && at >= 0 && at + words.length() <= to;
            due.eq("part " + promise + " of the document says: " + words, true, stands);
            if (stands) {
                Arrays.fill(said, at, at + words.length(), true);
            }
        }
    }

    /** Each promise was spoken of, and each edge that the terms or a promise name. */
    void allWereSaid() {
        for (int promise = 1; promise <= 43; promise++) {
            due.eq("promise " + promise + " has a test of its edges", true, promises.contains(promise));
        }
        if (document == null) {
            return;
        }
        Matcher edge = EDGE.matcher(document);
        int end = document.indexOf("## Not promised");
        edge.region(document.indexOf("## Terms"), end);
        while (edge.find()) {
            int at = edge.start();
            due.eq("there is a test for .. " + document.substring(Math.max(0, at - 40), Math.min(end, at + 40)), true, said[at]);
        }
    }

    void eq(String call, Object want, Object got) {
        due.eq("\"" + sentence + "\": " + call, want, got);
    }

    void rows(RiverProof x, String... rows) {
        for (String row : rows) {
            int times = row.contains("* ") ? Integer.parseInt(row.substring(0, row.indexOf("* "))) : 1;
            String[] sides = row.substring(row.contains("* ") ? row.indexOf("* ") + 2 : 0).split(" = ");
            for (int i = 0; i < times; i++) {
                int got = call(x, sides[0]);
                if (sides.length > 1) {
                    eq(row, number(sides[1]), got);
                }
            }
        }
    }

    static int call(RiverProof x, String words) {
        String[] w = words.split(" ");
        Object[] args = new Object[w.length - 1];
        for (int i = 0; i < args.length; i++) {
            args[i] = number(w[i + 1]);
        }
        try {
            return (Integer) METHODS.get(w[0] + " " + args.length).invoke(x, args);
        } catch (ReflectiveOperationException e) {
            throw new IllegalStateException(words, e);
        }
    }

    static int number(String word) {
        return NAMED.containsKey(word) ? NAMED.get(word) : Integer.parseInt(word);
    }

    void text(RiverProof x, String bytes, int want) {
        tape(x, bytes);
        eq("text of <" + bytes + ">", want, x.text());
    }

    /** THE TAPE becomes these bytes. */
    static void tape(RiverProof x, String bytes) {
        byte[] b = Arrays.copyOf(bytes.getBytes(StandardCharsets.ISO_8859_1), (bytes.length() + 11) / 12 * 12);
        x.trim(0);
        for (int i = 0; i < b.length; i += 12) {
            x.feed(four(b, i), four(b, i + 4), four(b, i + 8));
        }
        x.trim(bytes.length());
    }

    private static int four(byte[] b, int i) {
        return (b[i] & 255) << 24 | (b[i + 1] & 255) << 16 | (b[i + 2] & 255) << 8 | b[i + 3] & 255;
    }

    /** What z is behind n draws. */
    static int drawn(int z, int n) {
        int then = z;
        for (int i = 0; i < n; i++) {
            then = then * 1103515245 + 12345;
        }
        return then;
    }

    /** What the nth draw gives, from z on. */
    static int draw(int z, int n) {
        return drawn(z, n) >>> 8;
    }
}
