import java.util.ArrayList;
import java.util.Arrays;
import java.util.List;
import java.util.Map;
import java.util.TreeMap;
import java.util.function.Predicate;
import java.util.function.ToIntFunction;

/** The document written a second time, by other means and without a thought for speed, to be compared with. */
public final class Model {
    static final int BAD = -1000000001, NO = -1000000002, FULL = -1000000003, NONE = -1000000005;
    static final int NOTHING = -1000000011, KIND = -1000000012, INDEX = -1000000013, SIZE = -1000000014;

    // ---- kinds under one another, as classes under one another

    static class Plain {
        int adds(Mark m, State s) { return -s.stroke(m); }
        int fades() { return 1; }
        int worth(Mark m) { return m.ink; }
    }

    static class Caret extends Plain {
        @Override int adds(Mark m, State s) { return super.adds(m, s) / 2; }
        @Override int fades() { return super.fades() + 1; }
        @Override int worth(Mark m) { return super.worth(m) + m.stood; }
    }

    static class Turned extends Caret {
        @Override int adds(Mark m, State s) { return 0 - super.adds(m, s); }
        @Override int fades() { return 2 * super.fades(); }
        @Override int worth(Mark m) { return super.worth(m) / 2; }
    }

    static class Query extends Plain {
        @Override int adds(Mark m, State s) { return super.adds(m, s) + 5; }
        @Override int fades() { return 0; }
        @Override int worth(Mark m) { return 99 - m.ink; }
    }

    static class Stop extends Query {
        @Override int adds(Mark m, State s) { return super.adds(m, s) - s.water[m.reach] / 10; }
        @Override int fades() { return super.fades() + 3; }
        @Override int worth(Mark m) { return super.worth(m) + 7; }
    }

    static class Stet extends Plain {
        @Override int adds(Mark m, State s) { return 0; }
        @Override int fades() { return 0; }
        @Override int worth(Mark m) { return m.stood; }
    }

    static final Plain[] KINDS = {new Plain(), new Caret(), new Query(), new Turned(), new Stop(), new Stet()};

    static final class Mark {
        int kind, ink, reach, stood;

        Mark(int kind, int ink, int reach, int stood) {
            this.kind = kind;
            this.ink = ink;
            this.reach = reach;
            this.stood = stood;
        }

        Mark twin() { return new Mark(kind, ink, reach, stood); }
        boolean is(int k) { return KINDS[k].getClass().isInstance(KINDS[kind]); }
        int worth() { return KINDS[kind].worth(this); }
    }

    // ---- all that an image keeps

    static final class State {
        int[] water = new int[12];
        List<Mark> marks = new ArrayList<>();
        int spring = 10, clerk = 0, sea = 0, floods = 0, month = 0, z = 1;
        List<Law> laws = new ArrayList<>();

        State() { Arrays.fill(water, 20); }

        State twin() {
            State t = new State();
            t.water = water.clone();
            for (Mark m : marks) t.marks.add(m.twin());
            t.spring = spring;
            t.clerk = clerk;
            t.sea = sea;
            t.floods = floods;
            t.month = month;
            t.z = z;
            t.laws = new ArrayList<>(laws);
            return t;
        }

        int why(int key) {
            for (int i = laws.size() - 1; i >= 0; i--) if (laws.get(i).key == key) return i;
            return NONE;
        }

        int stroke(Mark m) {
            int given = m.ink / 10;
            if (why(0) != NONE) {
                Map<Character, Integer> names = new TreeMap<>();
                names.put('i', m.ink);
                names.put('w', water[m.reach]);
                names.put('t', m.stood);
                names.put('n', (int) marks.stream().filter(o -> o.reach == m.reach).count());
                given = laws.get(why(0)).e.applyAsInt(names);
            }
            return given < 0 ? 0 : given > 30 ? 30 : given;
        }

        boolean stet(int reach) { return marks.stream().anyMatch(m -> m.kind == 5 && m.reach == reach); }
        int adds(Mark m) { return stet(m.reach) ? 0 : KINDS[m.kind].adds(m, this); }

        void more(int reach, int by) {
            water[reach] += by;
            if (water[reach] > 99) {
                water[reach] = 99;
                if (floods < 99999) floods++;
            }
            if (water[reach] < 0) water[reach] = 0;
        }

        void itRuns() {
            int q = water[11] / 4;
            water[11] -= q;
            sea += q;
            if (sea > 99999) sea = 99999;
            for (int r = 10; r >= 0; r--) {
                q = water[r] / 4;
                water[r] -= q;
                more(r + 1, q);
            }
        }

        int draw() {
            z = (int) (z * 1103515245L + 12345L);
            return z >>> 8;
        }

        void oneMonth() {
            more(0, spring);
            for (Mark m : marks) more(m.reach, adds(m));
            itRuns();
            for (Mark m : marks) {
                m.ink = Math.max(0, m.ink - KINDS[m.kind].fades());
                if (m.stood < 9999) m.stood++;
            }
            int d = draw();
            if (d % 100 < clerk && !marks.isEmpty()) {
                Mark moved = marks.get(draw() % marks.size());
                moved.reach = draw() % 12;
            }
            month++;
        }

        State later(int n) {
            State t = twin();
            for (int i = 0; i < n; i++) t.oneMonth();
            return t;
        }

        int allWater() { return Arrays.stream(water).sum(); }
        int allInk() { return marks.stream().mapToInt(m -> m.ink).sum(); }

        int dry() {
            int set = 0;
            for (int r = 0; r < 12; r++) if (water[r] == 0) set += 1 << r;
            return set;
        }

        int marksThat(Predicate<Mark> p) {
            int set = 0;
            for (int i = 0; i < marks.size(); i++) if (p.test(marks.get(i))) set += 1 << i;
            return set;
        }
    }

    // ---- texts: a tree, read from the words and signs that a first pass has cut

    record Word(String what, int at, boolean lacksBlank) { }

    static final class Law {
        int key, operands;
        ToIntFunction<Map<Character, Integer>> e;
    }

    @SuppressWarnings("serial")
    static final class Fault extends RuntimeException {
        final int at;

        Fault(int at) { this.at = at; }
    }

    static final class Parser {
        final List<Word> words = new ArrayList<>();
        final int end;
        int at = 0;
        final Law law = new Law();

        Parser(String tape) {
            end = tape.length();
            int i = 0;
            boolean word = false;
            while (i < end) {
                int j = i;
                while (j < end && tape.substring(i, j + 1).matches("[a-z]+|[0-9]+")) j++;
                boolean isWord = j > i;
                if (!isWord) j = i + 1;
                if (tape.charAt(i) != ' ') words.add(new Word(tape.substring(i, j), i, isWord && word));
                word = isWord;
                i = j;
            }
        }

        Fault fault() { return new Fault(at < words.size() ? words.get(at).at : end); }
        String peek() { return at < words.size() ? words.get(at).what : ""; }
        boolean sees(String signs) { return peek().length() == 1 && signs.contains(peek()); }

        Law law() {
            law.key = Arrays.asList("stroke", "fee", "fine").indexOf(peek());
            if (law.key < 0) throw fault();
            at++;
            law.e = or(0, 0);
            if (at < words.size()) throw fault();
            return law;
        }

        ToIntFunction<Map<Character, Integer>> or(int open, int nots) {
            ToIntFunction<Map<Character, Integer>> left = and(open, nots);
            while (sees("|")) {
                at++;
                ToIntFunction<Map<Character, Integer>> a = left, b = and(open, nots);
                left = n -> a.applyAsInt(n) != 0 | b.applyAsInt(n) != 0 ? 1 : 0;
            }
            return left;
        }

        ToIntFunction<Map<Character, Integer>> and(int open, int nots) {
            ToIntFunction<Map<Character, Integer>> left = test(open, nots);
            while (sees("&")) {
                at++;
                ToIntFunction<Map<Character, Integer>> a = left, b = test(open, nots);
                left = n -> a.applyAsInt(n) != 0 & b.applyAsInt(n) != 0 ? 1 : 0;
            }
            return left;
        }

        ToIntFunction<Map<Character, Integer>> test(int open, int nots) {
            ToIntFunction<Map<Character, Integer>> a = sum(open, nots);
            if (!sees("<=>")) return a;
            String sign = peek();
            at++;
            ToIntFunction<Map<Character, Integer>> b = sum(open, nots);
            int due = sign.equals("<") ? -1 : sign.equals("=") ? 0 : 1;
            return n -> Integer.compare(a.applyAsInt(n), b.applyAsInt(n)) == due ? 1 : 0;
        }

        ToIntFunction<Map<Character, Integer>> sum(int open, int nots) {
            ToIntFunction<Map<Character, Integer>> left = term(open, nots);
            while (sees("+-")) {
                boolean plus = sees("+");
                at++;
                ToIntFunction<Map<Character, Integer>> a = left, b = term(open, nots);
                left = plus ? n -> a.applyAsInt(n) + b.applyAsInt(n) : n -> a.applyAsInt(n) - b.applyAsInt(n);
            }
            return left;
        }

        ToIntFunction<Map<Character, Integer>> term(int open, int nots) {
            ToIntFunction<Map<Character, Integer>> left = piece(open, nots);
            while (sees("*/")) {
                boolean times = sees("*");
                at++;
                ToIntFunction<Map<Character, Integer>> a = left, b = piece(open, nots);
                left = times ? n -> a.applyAsInt(n) * b.applyAsInt(n)
                    : n -> b.applyAsInt(n) == 0 ? 0 : (int) ((long) a.applyAsInt(n) / b.applyAsInt(n));
            }
            return left;
        }

        ToIntFunction<Map<Character, Integer>> piece(int open, int nots) {
            if (at < words.size() && words.get(at).lacksBlank) throw fault();
            String w = peek();
            if (w.matches("[0-9]{1,4}")) {
                at++;
                law.operands++;
                int v = Integer.parseInt(w);
                return n -> v;
            }
            if (w.matches(new String[] {"[iwtn]", "[sf]", "[it]"}[law.key])) {
                at++;
                law.operands++;
                return n -> n.get(w.charAt(0));
            }
            if (w.equals("!") && nots < 8) {
                at++;
                ToIntFunction<Map<Character, Integer>> a = piece(open, nots + 1);
                return n -> a.applyAsInt(n) == 0 ? 1 : 0;
            }
            if (w.equals("(") && open < 8) {
                at++;
                ToIntFunction<Map<Character, Integer>> a = or(open + 1, nots);
                if (!sees(")")) throw fault();
                at++;
                return a;
            }
            throw fault();
        }
    }

    // ---- an object

    private State now = new State();
    private State image = null;
    private String tape = "";
    private final Object[] sheets = new Object[4];
    private final Object[] slots = new Object[5];
    private List<Integer> waiting = new ArrayList<>();

    private static boolean in(int v, int least, int most) { return least <= v && v <= most; }
    private boolean has(int mark) { return in(mark, 0, now.marks.size() - 1); }

    public int pencil(int kind, int ink, int reach) {
        if (!in(kind, 0, 5) || !in(ink, 0, 99) || !in(reach, 0, 11)) return BAD;
        if (now.marks.size() == 10) return FULL;
        now.marks.add(new Mark(kind, ink, reach, 0));
        return now.marks.size() - 1;
    }

    public int told(int mark, int what) {
        if (!has(mark) || !in(what, 0, 6)) return BAD;
        Mark m = now.marks.get(mark);
        return new int[] {m.kind, m.ink, m.reach, m.stood, now.adds(m), KINDS[m.kind].fades(), m.worth()}[what];
    }

    public int as(int mark, int kind) {
        if (!has(mark) || !in(kind, 0, 5)) return BAD;
        return now.marks.get(mark).is(kind) ? now.marks.get(mark).ink : KIND;
    }

    public int turns(int mark, int kind) {
        if (!has(mark) || !in(kind, 0, 5)) return BAD;
        int was = now.marks.get(mark).kind;
        now.marks.get(mark).kind = kind;
        return was;
    }

    public int set(int mark, int what, int v) {
        if (!has(mark) || !in(what, 1, 3) || !in(v, 0, what == 1 ? 99 : what == 2 ? 11 : 9999)) return BAD;
        int was = told(mark, what);
        Mark m = now.marks.get(mark);
        if (what == 1) m.ink = v;
        if (what == 2) m.reach = v;
        if (what == 3) m.stood = v;
        return was;
    }

    public int water(int reach, int v) {
        if (!in(reach, 0, 11) || !in(v, 0, 99)) return BAD;
        int was = now.water[reach];
        now.water[reach] = v;
        return was;
    }

    public int reachOf(int reach, int what) {
        if (!in(reach, 0, 11) || !in(what, 0, 3)) return BAD;
        if (what == 0) return now.water[reach];
        if (what == 1) return now.marksThat(m -> m.reach == reach);
        if (what == 2) return now.marks.stream().filter(m -> m.reach == reach).mapToInt(now::adds).sum();
        return now.stet(reach) ? 1 : 0;
    }

    public int rule(int what, int v) {
        if (!in(what, 0, 1) || !in(v, 0, what == 0 ? 99 : 100)) return BAD;
        int was = what == 0 ? now.spring : now.clerk;
        if (what == 0) now.spring = v;
        else now.clerk = v;
        return was;
    }

    public int deal(int n) {
        if (!in(n, 1, 10)) return BAD;
        int came = 0;
        while (came < n && now.marks.size() < 10) {
            int kind = now.draw() % 6;
            int ink = now.draw() % 100;
            int reach = now.draw() % 12;
            now.marks.add(new Mark(kind, ink, reach, 0));
            came++;
        }
        return came;
    }

    public int seed(int v) {
        int was = now.z;
        now.z = v;
        return was;
    }

    public int runs() {
        int was = now.sea;
        now.itRuns();
        return now.sea - was;
    }

    public int months(int n) {
        if (!in(n, 1, 100)) return BAD;
        int was = now.sea;
        for (int i = 0; i < n && now.month < 9999; i++) now.oneMonth();
        return now.sea - was;
    }

    public int river(int what) {
        if (!in(what, 0, 6)) return BAD;
        int deepest = 0;
        while (now.water[deepest] != Arrays.stream(now.water).max().getAsInt()) deepest++;
        return what == 5 ? deepest : what == 6 ? now.marksThat(m -> now.adds(m) != 0) : five(now, what);
    }

    private static int five(State s, int what) {
        return new int[] {s.sea, s.floods, s.allWater(), s.allInk(), s.dry()}[what];
    }

    public int behind(int n, int what) {
        if (!in(n, 0, 100) || !in(what, 0, 16)) return BAD;
        State then = now.later(n);
        return what < 5 ? five(then, what) : then.water[what - 5];
    }

    public int dries(int reach) {
        if (!in(reach, 0, 11)) return BAD;
        State then = now.twin();
        for (int n = 0; n <= 200; n++, then.oneMonth()) if (then.water[reach] == 0) return n;
        return NONE;
    }

    public int rises(int reach, int v) {
        if (!in(reach, 0, 11) || !in(v, 0, 99)) return BAD;
        State then = now.twin();
        for (int n = 0; n <= 200; n++, then.oneMonth()) if (then.water[reach] >= v) return n;
        return NONE;
    }

    public int rub(int n) {
        if (!in(n, 0, 20)) return BAD;
        int best = NONE, fewest = 99;
        for (int set = 0; set < 1 << now.marks.size(); set++) {
            if (Integer.bitCount(set) >= fewest) continue;
            State t = now.twin();
            for (int i = 0; i < t.marks.size(); i++) if ((set & 1 << i) != 0) t.marks.get(i).ink = 0;
            if (t.later(n).dry() == 0) {
                best = set;
                fewest = Integer.bitCount(set);
            }
        }
        return best;
    }

    public int ink(int mark, int n, int v) {
        if (!has(mark) || !in(n, 0, 60) || !in(v, 0, 99)) return BAD;
        for (int ink = 0; ink < 100; ink++) {
            State t = now.twin();
            t.marks.get(mark).ink = ink;
            if (t.later(n).water[now.marks.get(mark).reach] <= v) return ink;
        }
        return NONE;
    }

    public int place(int mark, int n, int what) {
        if (!has(mark) || !in(n, 1, 60) || !in(what, 0, 1)) return BAD;
        int[] seas = new int[12];
        for (int r = 0; r < 12; r++) {
            State t = now.twin();
            t.marks.get(mark).reach = r;
            seas[r] = t.later(n).sea;
        }
        return firstMost(seas, what);
    }

    public int becomes(int mark, int n, int what) {
        if (!has(mark) || !in(n, 1, 60) || !in(what, 0, 1)) return BAD;
        int[] seas = new int[6];
        for (int k = 0; k < 6; k++) {
            State t = now.twin();
            t.marks.get(mark).kind = k;
            seas[k] = t.later(n).sea;
        }
        return firstMost(seas, what);
    }

    private static int firstMost(int[] seas, int what) {
        int most = Arrays.stream(seas).max().getAsInt();
        for (int i = 0; i < seas.length; i++) if (seas[i] == most) return what == 0 ? i : most;
        return BAD;
    }

    public int like(int sheet, int what) {
        if (!in(sheet, 0, 3) || !in(what, 0, 1)) return BAD;
        if (sheets[sheet] == null) return NOTHING;
        int best = 0, least = Integer.MAX_VALUE;
        for (int r = 0; r < 12; r++) {
            int sum = 0;
            for (int k = 0; k < sizeOf(sheets[sheet]); k++) {
                Integer v = numberAt(sheets[sheet], k);
                if (v != null) sum += Math.abs(now.later(k).water[r] - v);
            }
            if (sum < least) {
                least = sum;
                best = r;
            }
        }
        return what == 0 ? best : least;
    }

    public int fee() {
        if (now.why(1) == NONE) return now.sea;
        return now.laws.get(now.why(1)).e.applyAsInt(Map.of('s', now.sea, 'f', now.floods));
    }

    public int fine(int mark) {
        if (!has(mark)) return BAD;
        Mark m = now.marks.get(mark);
        return now.why(2) == NONE ? m.ink : now.laws.get(now.why(2)).e.applyAsInt(Map.of('i', m.ink, 't', m.stood));
    }

    public int feed(int a, int b, int c) {
        if (tape.length() > 84) return FULL;
        for (int v : new int[] {a, b, c}) {
            tape += "" + (char) (v >>> 24) + (char) (v >>> 16 & 255) + (char) (v >>> 8 & 255) + (char) (v & 255);
        }
        return tape.length();
    }

    public int trim(int n) {
        if (!in(n, 0, tape.length())) return BAD;
        tape = tape.substring(0, n);
        return n;
    }

    public int text() {
        String read = tape;
        tape = "";
        try {
            Law law = new Parser(read).law();
            if (now.laws.size() == 14) return FULL;
            now.laws.add(law);
            return now.laws.size() - 1;
        } catch (Fault f) {
            return -100 - f.at;
        }
    }

    public int textTold(int text, int what) {
        if (!in(text, 0, now.laws.size() - 1) || !in(what, 0, 1)) return BAD;
        return what == 0 ? now.laws.get(text).key : now.laws.get(text).operands;
    }

    public int why(int key) { return in(key, 0, 2) ? now.why(key) : BAD; }

    private static int sizeOf(Object row) { return row instanceof short[] s ? s.length : ((float[]) row).length; }

    private static Integer numberAt(Object row, int k) {
        if (row instanceof short[] s) return (int) s[k];
        float f = ((float[]) row)[k];
        return Float.isNaN(f) ? null : (Integer) (int) f;
    }

    public int sheet(int sheet, int sort, int n) {
        if (!in(sheet, 0, 3) || !in(sort, -1, 1)) return BAD;
        if (sort == -1) {
            sheets[sheet] = null;
            return 0;
        }
        if (n > 24) return BAD;
        if (n < 0) return SIZE;
        sheets[sheet] = sort == 0 ? new short[n] : new float[n];
        return n;
    }

    public int mark(int sheet, int place, int v) {
        if (!in(sheet, 0, 3)) return BAD;
        if (sheets[sheet] == null) return NOTHING;
        if (!in(place, 0, sizeOf(sheets[sheet]) - 1)) return INDEX;
        if (sheets[sheet] instanceof short[] s) {
            if (v == NONE) return KIND;
            s[place] = (short) v;
            return 1;
        }
        if (v != NONE && !in(v, -99999, 99999)) return BAD;
        ((float[]) sheets[sheet])[place] = v == NONE ? Float.NaN : v;
        return 1;
    }

    public int pour(int sheet) {
        if (!in(sheet, 0, 3)) return BAD;
        if (sheets[sheet] == null) return NOTHING;
        int[] was = now.water.clone();
        int changed = 0;
        for (int r = 0; r < 12; r++) {
            Integer v = r < sizeOf(sheets[sheet]) ? numberAt(sheets[sheet], r) : null;
            if (v != null) now.water[r] = Math.min(99, Math.max(0, v));
            if (now.water[r] != was[r]) changed++;
        }
        return changed;
    }

    public int reads(int sheet) {
        if (!in(sheet, 0, 3)) return BAD;
        if (sheets[sheet] == null) return NOTHING;
        for (int k = 0; k < sizeOf(sheets[sheet]); k++) {
            Integer v = numberAt(sheets[sheet], k);
            if (v != null && !(has(k) && now.marks.get(k).reach == v)) return k;
        }
        return NONE;
    }

    public int copy(int from, int place, int to, int at, int many) {
        if (!in(from, 0, 3) || !in(to, 0, 3)) return BAD;
        if (sheets[from] == null || sheets[to] == null) return NOTHING;
        try {
            System.arraycopy(sheets[from], place, sheets[to], at, many);
        } catch (ArrayStoreException e) {
            return KIND;
        } catch (IndexOutOfBoundsException e) {
            return INDEX;
        }
        return many;
    }

    public int lay(int slot, int thing, int k) {
        if (!in(slot, 0, 4) || !in(thing, 0, 3)) return BAD;
        if (thing == 1 && !has(k) || thing == 2 && !in(k, 0, 3)) return BAD;
        if (thing == 2 && sheets[k] == null) return NOTHING;
        Object was = slots[slot];
        if (thing == 0) slots[slot] = null;
        if (thing == 1) slots[slot] = now.marks.get(k).twin();
        if (thing == 2) slots[slot] = sheets[k] instanceof short[] s ? s.clone() : ((float[]) sheets[k]).clone();
        if (thing == 3) slots[slot] = k;
        return was == null ? 0 : was instanceof Mark ? 1 : was instanceof Integer ? 3 : 2;
    }

    public int ask(int slot, int kind) {
        if (!in(slot, 0, 4) || !in(kind, 0, 5)) return BAD;
        if (slots[slot] == null) return NOTHING;
        return slots[slot] instanceof Mark m && m.is(kind) ? m.worth() : KIND;
    }

    public int item(int slot, int place) {
        if (!in(slot, 0, 4)) return BAD;
        Object held = slots[slot];
        if (held == null) return NOTHING;
        if (held instanceof Mark || held instanceof Integer) return KIND;
        if (!in(place, 0, sizeOf(held) - 1)) return INDEX;
        Integer v = numberAt(held, place);
        return v == null ? KIND : v;
    }

    public int rest(int slot, int n) {
        if (!in(slot, 0, 4)) return BAD;
        if (slots[slot] == null) return NOTHING;
        if (!(slots[slot] instanceof Integer v)) return KIND;
        return n == 0 ? NO : (int) ((long) v % n);
    }

    public int tell(int v) {
        if (waiting.size() == 60) return FULL;
        waiting.add(v);
        return waiting.size();
    }

    public int check(int n) {
        List<Integer> told = waiting;
        waiting = new ArrayList<>();
        if (!in(n, 1, 30)) return BAD;
        if (image == null) return NO;
        List<Integer> due = new ArrayList<>();
        for (int k = 1; k <= n && image.month + k <= 9999; k++) {
            due.add(image.later(k).sea);
            due.add(image.later(k).allWater());
        }
        if (told.equals(due)) return 0;
        int right = 0;
        while (right < told.size() && right < due.size() && told.get(right).equals(due.get(right))) right++;
        return 1 + right;
    }

    public int keep() {
        image = now.twin();
        return now.marks.size();
    }

    public int back() {
        if (image == null) return NO;
        now = image.twin();
        return now.marks.size();
    }

    public int count(int what) {
        if (!in(what, 0, 7)) return BAD;
        return new int[] {now.marks.size(), now.month, now.spring, now.clerk, now.laws.size(), waiting.size(),
            tape.length(), now.z}[what];
    }
}
