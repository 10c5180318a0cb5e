import java.lang.reflect.Method;
import java.util.ArrayList;
import java.util.HashMap;
import java.util.List;
import java.util.Map;
import java.util.Random;

/** Random runs of up to 512 calls, each answered by the class and by the model. Arguments: runs, first seed. */
public final class ModelTest {
    /** Name, how often it comes, and the least and the most of each argument that the document allows. */
    private static final String[] CALLS = {
        "pencil 12 0 5 0 99 0 11", "told 14 0 9 0 6", "as 6 0 9 0 5", "turns 6 0 9 0 5", "set 6 0 9 1 3 0 11",
        "set 4 0 9 1 3 0 99", "set 3 0 9 1 3 0 9999", "water 8 0 11 0 99", "reachOf 8 0 11 0 3", "rule 4 0 1 0 99",
        "deal 2 1 10", "seed 2 -2147483648 2147483647", "runs 3", "months 8 1 100", "months 6 1 4", "river 14 0 6",
        "behind 8 0 100 0 16", "dries 4 0 11", "rises 5 0 11 0 99", "rub 2 0 20", "rub 2 0 4", "ink 3 0 9 0 60 0 99",
        "place 3 0 9 1 60 0 1", "becomes 3 0 9 1 60 0 1", "like 5 0 3 0 1", "fee 5", "fine 8 0 9",
        "feed 1 -2147483648 2147483647 -2147483648 2147483647 -2147483648 2147483647", "trim 1 0 96", "text 1",
        "textTold 4 0 13 0 1", "why 4 0 2", "sheet 3 0 3 -1 1 0 24", "sheet 4 0 3 0 1 8 24", "mark 16 0 3 0 14 0 99", "mark 8 0 3 0 11 0 11",
        "mark 4 0 3 0 23 -99999 99999", "mark 4 0 3 0 23 -1000000005 -1000000005",
        "mark 3 0 3 0 23 -2147483648 2147483647", "pour 4 0 3", "reads 6 0 3", "copy 8 0 3 0 12 0 3 0 12 0 8",
        "lay 8 0 4 0 3 0 9", "lay 2 0 4 3 3 -2147483648 2147483647", "ask 8 0 4 0 5", "item 8 0 4 0 14",
        "rest 4 0 4 -20 20", "rest 2 0 4 -2147483648 2147483647", "tell 1 0 99", "check 1 1 30", "keep 2", "back 2",
        "count 8 0 7"};
    private static final int[] ODD = {
        Integer.MIN_VALUE, Integer.MAX_VALUE, -1, 0, 1, 24, 25, 100, 10000, 65536, -32769, 1 << 31 >> 8, -1000000005};
    private static final String[] NAMES = {"iwtn", "sf", "it"};
    private static final String[] KEYS = {"stroke", "fee", "fine"};

    private final Random random;
    private final Due due;
    private final String run;
    private final RiverProof real = new RiverProof();
    private final Model model = new Model();
    private final Map<String, Method[]> methods;
    private int calls = 0;
    private int last = 0;

    private ModelTest(Due due, long seed, Map<String, Method[]> methods) {
        this.due = due;
        this.random = new Random(seed);
        this.run = "run " + seed + " call ";
        this.methods = methods;
    }

    public static void main(String[] args) throws Exception {
        int runs = args.length > 0 ? Integer.parseInt(args[0]) : 150;
        int first = args.length > 1 ? Integer.parseInt(args[1]) : 1;
        Map<String, Method[]> methods = new HashMap<>();
        for (Method m : RiverProof.class.getMethods()) {
            if (m.getDeclaringClass() == RiverProof.class) {
                methods.put(m.getName(), new Method[] {m, Model.class.getMethod(m.getName(), m.getParameterTypes())});
            }
        }
        List<String[]> bag = new ArrayList<>();
        for (String line : CALLS) {
            String[] words = line.split(" ");
            for (int i = 0; i < Integer.parseInt(words[1]); i++) {
                bag.add(words);
            }
        }
        Due due = new Due("model");
        for (int seed = first; seed < first + runs; seed++) {
            new ModelTest(due, seed, methods).play(bag, seed % 10);
        }
        due.end();
    }

    private void play(List<String[]> bag, int flavour) throws Exception {
        if (flavour == 0) {
            call("deal", 3);
            for (int i = 0; i < 100; i++) {
                call("months", i == 99 ? 90 + random.nextInt(11) : 100);
            }
        }
        if (flavour > 2) {
            call("deal", 1 + random.nextInt(10));
        }
        if (flavour > 4) {
            call("rule", 0, random.nextInt(5));
        }
        if (flavour > 6) {
            call("rule", 1, random.nextInt(101));
        }
        for (int sheet = 0; sheet < 4 && flavour % 2 == 1; sheet++) {
            call("sheet", sheet, random.nextInt(2), 8 + random.nextInt(17));
            call("lay", sheet, 2, sheet);
        }
        while (calls < 512) {
            int pick = random.nextInt(100);
            if (pick < 6) {
                tellText();
            } else if (pick < 9) {
                tellMonths();
            } else {
                plainCall(bag.get(random.nextInt(bag.size())));
            }
        }
    }

    private void call(String name, int... args) throws Exception {
        calls++;
        if (calls > 512) {
            return;
        }
        Object[] boxed = new Object[args.length];
        StringBuilder told = new StringBuilder(run).append(calls).append(": ").append(name);
        for (int i = 0; i < args.length; i++) {
            boxed[i] = args[i];
            told.append(' ').append(args[i]);
        }
        Method[] both = methods.get(name);
        last = (Integer) both[1].invoke(model, boxed);
        due.eq(told.toString(), last, both[0].invoke(real, boxed));
    }

    private void plainCall(String[] words) throws Exception {
        int[] args = new int[words.length / 2 - 1];
        for (int i = 0; i < args.length; i++) {
            int least = Integer.parseInt(words[2 + 2 * i]);
            int most = Integer.parseInt(words[3 + 2 * i]);
            int pick = random.nextInt(60);
            args[i] = pick == 0 ? least - 1 : pick == 1 ? most + 1 : pick == 2 ? ODD[random.nextInt(ODD.length)]
                : (int) (least + Math.floor(random.nextDouble() * (1.0 + most - least)));
        }
        call(words[0], args);
    }

    /** The months of an image are told as they will be, or with one number that is wrong, missing or too many. */
    private void tellMonths() throws Exception {
        int n = 1 + random.nextInt(random.nextInt(8) == 0 ? 31 : 6);
        call("keep");
        List<Integer> told = new ArrayList<>();
        for (int i = 0; i < n; i++) {
            int month = model.count(1);
            call("months", 1);
            if (model.count(1) > month) {
                call("river", 0);
                told.add(last);
                call("river", 2);
                told.add(last);
            }
        }
        if (random.nextBoolean()) {
            call("back");
        }
        int spoilt = random.nextInt(6);
        if (spoilt == 0 && !told.isEmpty()) {
            told.set(random.nextInt(told.size()), random.nextInt(300));
        } else if (spoilt == 1 && !told.isEmpty()) {
            told.remove(random.nextInt(told.size()));
        } else if (spoilt == 2) {
            told.add(random.nextInt(300));
        }
        for (int v : told) {
            call("tell", v);
        }
        call("check", n);
    }

    private void tellText() throws Exception {
        int key = random.nextInt(3);
        StringBuilder text = new StringBuilder(blanks()).append(KEYS[key]).append(' ');
        piece(text, key, random.nextInt(5));
        if (random.nextInt(3) == 0) {
            spoil(text);
        }
        if (random.nextInt(12) == 0) {
            char nested = random.nextBoolean() ? '(' : '!';
            text.insert(text.indexOf(" ") + 1, String.valueOf(nested).repeat(6 + random.nextInt(4)));
            if (nested == '(') {
                text.append(")".repeat(7 + random.nextInt(3)));
            }
        }
        if (text.length() > 96) {
            text.setLength(96);
        }
        int length = text.length();
        while (text.length() % 12 != 0) {
            text.append((char) random.nextInt(256));
        }
        call("trim", 0);
        for (int i = 0; i < text.length(); i += 12) {
            call("feed", four(text, i), four(text, i + 4), four(text, i + 8));
        }
        call("trim", length);
        call("text");
    }

    private static int four(StringBuilder s, int i) {
        return s.charAt(i) << 24 | s.charAt(i + 1) << 16 | s.charAt(i + 2) << 8 | s.charAt(i + 3);
    }

    private String blanks() {
        return random.nextInt(4) == 0 ? " ".repeat(random.nextInt(3)) : "";
    }

    private void piece(StringBuilder text, int key, int depth) {
        int pick = random.nextInt(10);
        text.append(blanks());
        if (depth > 0 && pick < 7) {
            piece(text, key, depth - 1);
            text.append(blanks()).append("|&<=>+-*/+-*/".charAt(random.nextInt(13)));
            piece(text, key, depth - 1);
        } else if (depth > 0 && pick == 7) {
            text.append('!');
            piece(text, key, depth - 1);
        } else if (depth > 0) {
            text.append('(');
            piece(text, key, depth - 1);
            text.append(')');
        } else if (pick < 7) {
            text.append(NAMES[key].charAt(random.nextInt(NAMES[key].length())));
        } else {
            text.append(random.nextInt(new int[] {10, 100, 10000}[random.nextInt(3)]));
        }
        text.append(blanks());
    }

    private void spoil(StringBuilder text) {
        int at = random.nextInt(text.length());
        switch (random.nextInt(4)) {
            case 0:
                text.deleteCharAt(at);
                break;
            case 1:
                text.insert(at, "!()|&<=>+-*/ 0129iwtnsf".charAt(random.nextInt(23)));
                break;
            case 2:
                text.setCharAt(at, (char) random.nextInt(256));
                break;
            default:
                text.setLength(at);
        }
    }
}
