import java.nio.charset.StandardCharsets;

/** Each promise by ordinary inputs, edges and wrong inputs; the answers are worked out by hand from the document. */
public final class PromiseTest {
    private static final int BAD = RiverProof.BAD, NO = RiverProof.NO, FULL = RiverProof.FULL, NONE = RiverProof.NONE;
    private static final int NOTHING = RiverProof.NOTHING, KIND = RiverProof.KIND, INDEX = RiverProof.INDEX;
    private static final int SIZE = RiverProof.SIZE;
    private static final int MIN = Integer.MIN_VALUE, MAX = Integer.MAX_VALUE;

    private static final Due DUE = new Due("promises");

    private static void eq(String call, int want, int got) {
        DUE.eq(call, want, got);
    }

    /** THE TAPE becomes these bytes, by feeding twelves and trimming. */
    private static void tape(RiverProof x, String bytes) {
        x.trim(0);
        byte[] b = java.util.Arrays.copyOf(bytes.getBytes(StandardCharsets.ISO_8859_1), (bytes.length() + 11) / 12 * 12);
        for (int i = 0; i < b.length; i += 12) {
            x.feed(four(b, i), four(b, i + 4), four(b, i + 8));
        }
        x.trim(bytes.length());
    }

    private static int four(byte[] b, int i) {
        return (b[i] & 255) << 24 | (b[i + 1] & 255) << 16 | (b[i + 2] & 255) << 8 | b[i + 3] & 255;
    }

    private static int text(RiverProof x, String bytes) {
        tape(x, bytes);
        return x.text();
    }

    private static void fault(String bytes, int place) {
        eq("text " + bytes, -100 - place, text(new RiverProof(), bytes));
    }

    private static void gives(String e, int value) {
        RiverProof x = new RiverProof();
        eq("text fee " + e, 0, text(x, "fee " + e));
        eq("fee " + e, value, x.fee());
    }

    private static RiverProof withMarks(int... kindInkReach) {
        RiverProof x = new RiverProof();
        for (int i = 0; i < kindInkReach.length; i += 3) {
            x.pencil(kindInkReach[i], kindInkReach[i + 1], kindInkReach[i + 2]);
        }
        return x;
    }

    private static RiverProof withAllWater(int v) {
        RiverProof x = new RiverProof();
        for (int r = 0; r < 12; r++) {
            x.water(r, v);
        }
        return x;
    }

    /** All that an image keeps and all else that can be asked for without a change. */
    static String seen(RiverProof x) {
        StringBuilder s = new StringBuilder();
        for (int what = 0; what < 8; what++) {
            s.append(x.count(what)).append(' ').append(x.river(what)).append(' ');
        }
        for (int r = 0; r < 12; r++) {
            s.append(x.reachOf(r, 0)).append(' ');
        }
        for (int m = 0; m < x.count(0); m++) {
            for (int what = 0; what < 7; what++) {
                s.append(x.told(m, what)).append(' ');
            }
        }
        return s.append(x.why(0)).append(' ').append(x.why(1)).append(' ').append(x.why(2)).toString();
    }

    public static void main(String[] args) {
        aNewObject();
        pencil();
        told();
        adds();
        as();
        turns();
        set();
        water();
        reachOf();
        rule();
        deal();
        seed();
        runs();
        months();
        monthsOfMarks();
        river();
        behind();
        dries();
        rises();
        rub();
        ink();
        place();
        becomes();
        like();
        fee();
        fine();
        feed();
        trim();
        text();
        faults();
        values();
        textTold();
        why();
        sheet();
        mark();
        pour();
        reads();
        copy();
        lay();
        ask();
        item();
        rest();
        tell();
        check();
        keepAndBack();
        count();
        DUE.end();
    }

    private static void aNewObject() {
        RiverProof x = new RiverProof();
        int[] counts = {0, 0, 10, 0, 0, 0, 0, 1};
        for (int what = 0; what < 8; what++) {
            eq("1 count " + what, counts[what], x.count(what));
        }
        int[] sums = {0, 0, 240, 0, 0, 0, 0};
        for (int what = 0; what < 7; what++) {
            eq("1 river " + what, sums[what], x.river(what));
        }
        for (int r = 0; r < 12; r++) {
            eq("1 water of " + r, 20, x.reachOf(r, 0));
            eq("1 marks in " + r, 0, x.reachOf(r, 1));
        }
        for (int s = 0; s < 4; s++) {
            eq("1 sheet " + s, NOTHING, x.pour(s));
        }
        for (int s = 0; s < 5; s++) {
            eq("1 slot " + s, NOTHING, x.ask(s, 0));
        }
        for (int key = 0; key < 3; key++) {
            eq("1 why " + key, NONE, x.why(key));
        }
        eq("1 no image", NO, x.back());
    }

    private static void pencil() {
        RiverProof x = new RiverProof();
        eq("2 kind -1", BAD, x.pencil(-1, 0, 0));
        eq("2 kind 6", BAD, x.pencil(6, 0, 0));
        eq("2 ink -1", BAD, x.pencil(0, -1, 0));
        eq("2 ink 100", BAD, x.pencil(0, 100, 0));
        eq("2 reach -1", BAD, x.pencil(0, 0, -1));
        eq("2 reach 12", BAD, x.pencil(0, 0, 12));
        eq("2 none came", 0, x.count(0));
        for (int m = 0; m < 10; m++) {
            eq("2 pencil " + m, m, x.pencil(m % 6, m * 11, m + 2));
        }
        eq("2 ink of 9", 99, x.told(9, 1));
        eq("2 reach of 9", 11, x.told(9, 2));
        eq("2 full", FULL, x.pencil(0, 0, 0));
        eq("2 bad ahead of full", BAD, x.pencil(6, 0, 0));
    }

    private static void told() {
        RiverProof x = withMarks(0, 80, 0, 1, 70, 1, 2, 60, 2, 3, 99, 3, 4, 55, 4, 5, 44, 5);
        int[][] due = {{0, 80, 0, 0, -8, 1, 80}, {1, 70, 1, 9, -3, 2, 79}, {2, 60, 2, 0, -1, 0, 39},
            {3, 99, 3, 20, 4, 4, 59}, {4, 55, 4, 0, -2, 3, 51}, {5, 44, 5, 7, 0, 0, 7}};
        x.set(1, 3, 9);
        x.set(3, 3, 20);
        x.set(5, 3, 7);
        for (int m = 0; m < 6; m++) {
            for (int what = 0; what < 7; what++) {
                eq("3 told " + m + " " + what, due[m][what], x.told(m, what));
            }
        }
        eq("3 what -1", BAD, x.told(0, -1));
        eq("3 what 7", BAD, x.told(0, 7));
        eq("3 mark 6", BAD, x.told(6, 0));
        eq("3 mark -1", BAD, x.told(-1, 0));
    }

    private static void adds() {
        RiverProof x = withMarks(4, 9, 4, 0, 99, 4, 2, 0, 4);
        x.water(4, 99);
        eq("3 a stop in deep water", -4, x.told(0, 4));
        eq("3 ink 9 is no tenth", 5, x.told(2, 4));
        x.pencil(5, 0, 4);
        eq("3 a stet in the reach", 0, x.told(0, 4));
        eq("3 a stet for all", 0, x.told(1, 4));
        x.set(3, 2, 5);
        eq("3 the stet is gone", -9, x.told(1, 4));
        eq("3 a text", 0, text(x, "stroke w+n-50"));
        eq("3 held within 30", -30, x.told(1, 4));
        eq("3 a caret of 30", 0, x.turns(1, 1));
        eq("3 half of 30", -15, x.told(1, 4));
        x.water(4, 10);
        eq("3 held within 0", 0, x.told(1, 4));
        x.water(4, 55);
        eq("3 water and how many are there", -4, x.told(1, 4));
        eq("3 a query by a text", -3, x.told(2, 4));
        eq("3 a stop by a text", -8, x.told(0, 4));
        eq("3 stood by a text", 1, text(x, "stroke t/2+i"));
        x.set(2, 3, 21);
        eq("3 stood and ink", -5, x.told(2, 4));
    }

    private static void as() {
        RiverProof x = withMarks(0, 10, 0, 1, 11, 0, 2, 12, 0, 3, 13, 0, 4, 14, 0, 5, 15, 0);
        int[] above = {1, 3, 5, 11, 21, 33};
        for (int m = 0; m < 6; m++) {
            for (int kind = 0; kind < 6; kind++) {
                eq("4 as " + m + " " + kind, (above[m] >> kind & 1) == 1 ? 10 + m : KIND, x.as(m, kind));
            }
        }
        eq("4 mark 6", BAD, x.as(6, 0));
        eq("4 mark -1", BAD, x.as(-1, 0));
        eq("4 kind 6", BAD, x.as(0, 6));
        eq("4 kind -1", BAD, x.as(0, -1));
    }

    private static void turns() {
        RiverProof x = withMarks(0, 50, 3);
        x.set(0, 3, 8);
        eq("5 to turned", 0, x.turns(0, 3));
        eq("5 adds", 2, x.told(0, 4));
        eq("5 to stet", 3, x.turns(0, 5));
        eq("5 kind", 5, x.told(0, 0));
        eq("5 ink stays", 50, x.told(0, 1));
        eq("5 stood stays", 8, x.told(0, 3));
        eq("5 kind 6", BAD, x.turns(0, 6));
        eq("5 kind -1", BAD, x.turns(0, -1));
        eq("5 mark 1", BAD, x.turns(1, 0));
        eq("5 as it was", 5, x.told(0, 0));
    }

    private static void set() {
        RiverProof x = withMarks(0, 50, 3);
        eq("6 ink", 50, x.set(0, 1, 99));
        eq("6 ink to 0", 99, x.set(0, 1, 0));
        eq("6 reach", 3, x.set(0, 2, 11));
        eq("6 stood", 0, x.set(0, 3, 9999));
        eq("6 ink 100", BAD, x.set(0, 1, 100));
        eq("6 reach 12", BAD, x.set(0, 2, 12));
        eq("6 stood 10000", BAD, x.set(0, 3, 10000));
        for (int what = 1; what < 4; what++) {
            eq("6 below 0", BAD, x.set(0, what, -1));
        }
        eq("6 what 0", BAD, x.set(0, 0, 1));
        eq("6 what 4", BAD, x.set(0, 4, 1));
        eq("6 mark 1", BAD, x.set(1, 1, 1));
        eq("6 ink now", 0, x.told(0, 1));
        eq("6 reach now", 11, x.told(0, 2));
        eq("6 stood now", 9999, x.told(0, 3));
    }

    private static void water() {
        RiverProof x = new RiverProof();
        eq("7 to 99", 20, x.water(11, 99));
        eq("7 to 0", 99, x.water(11, 0));
        eq("7 it is", 0, x.reachOf(11, 0));
        eq("7 100", BAD, x.water(0, 100));
        eq("7 -1", BAD, x.water(0, -1));
        eq("7 reach 12", BAD, x.water(12, 1));
        eq("7 reach -1", BAD, x.water(-1, 1));
        eq("7 no floods", 0, x.river(1));
    }

    private static void reachOf() {
        RiverProof x = withMarks(0, 80, 0, 2, 0, 0, 0, 30, 1, 5, 9, 1);
        eq("8 marks", 3, x.reachOf(0, 1));
        eq("8 what they add", -3, x.reachOf(0, 2));
        eq("8 no stet", 0, x.reachOf(0, 3));
        eq("8 marks of 1", 12, x.reachOf(1, 1));
        eq("8 a stet stops them", 0, x.reachOf(1, 2));
        eq("8 a stet", 1, x.reachOf(1, 3));
        eq("8 none", 0, x.reachOf(11, 2));
        eq("8 what 4", BAD, x.reachOf(0, 4));
        eq("8 what -1", BAD, x.reachOf(0, -1));
        eq("8 reach 12", BAD, x.reachOf(12, 0));
        eq("8 reach -1", BAD, x.reachOf(-1, 0));
    }

    private static void rule() {
        RiverProof x = new RiverProof();
        eq("9 spring", 10, x.rule(0, 99));
        eq("9 clerk", 0, x.rule(1, 100));
        eq("9 spring 100", BAD, x.rule(0, 100));
        eq("9 clerk 101", BAD, x.rule(1, 101));
        eq("9 spring -1", BAD, x.rule(0, -1));
        eq("9 clerk -1", BAD, x.rule(1, -1));
        eq("9 what 2", BAD, x.rule(2, 0));
        eq("9 what -1", BAD, x.rule(-1, 0));
        eq("9 spring was", 99, x.rule(0, 0));
        eq("9 clerk was", 100, x.rule(1, 0));
    }

    private static void deal() {
        RiverProof x = new RiverProof();
        eq("10 0", BAD, x.deal(0));
        eq("10 11", BAD, x.deal(11));
        eq("10 no draws", 1, x.count(7));
        eq("10 one", 1, x.deal(1));
        int z = 1;
        int[] due = new int[3];
        int[] by = {6, 100, 12};
        for (int i = 0; i < 3; i++) {
            z = z * 1103515245 + 12345;
            due[i] = (z >>> 8) % by[i];
        }
        for (int i = 0; i < 3; i++) {
            eq("10 told " + i, due[i], x.told(0, i));
        }
        eq("10 stood", 0, x.told(0, 3));
        eq("10 z", z, x.count(7));
        eq("10 room for nine", 9, x.deal(10));
        int after = x.count(7);
        eq("10 no room", 0, x.deal(5));
        eq("10 no draws for others", after, x.count(7));
    }

    private static void seed() {
        RiverProof x = new RiverProof();
        eq("11 first", 1, x.seed(MIN));
        eq("11 any", MIN, x.seed(MAX));
        eq("11 it is", MAX, x.count(7));
    }

    private static void runs() {
        RiverProof x = new RiverProof();
        eq("12 a fourth", 5, x.runs());
        eq("12 reach 0", 15, x.reachOf(0, 0));
        eq("12 reach 11", 20, x.reachOf(11, 0));
        eq("12 no month", 0, x.count(1));
        eq("12 no draw", 1, x.count(7));
        RiverProof full = withAllWater(99);
        eq("12 full", 24, full.runs());
        eq("12 full reach 1", 99, full.reachOf(1, 0));
        eq("12 99 is not above 99", 0, full.river(1));
        full.water(1, 98);
        full.water(2, 3);
        eq("12 again", 24, full.runs());
        eq("12 three more than 3", 27, full.reachOf(2, 0));
        RiverProof few = withAllWater(3);
        eq("12 cut to nothing", 0, few.runs());
        eq("12 all stays", 36, few.river(2));
    }

    private static void months() {
        RiverProof x = new RiverProof();
        eq("13 0", BAD, x.months(0));
        eq("13 101", BAD, x.months(101));
        eq("13 one", 5, x.months(1));
        eq("13 reach 0", 23, x.reachOf(0, 0));
        eq("13 reach 1", 22, x.reachOf(1, 0));
        eq("13 reach 2", 20, x.reachOf(2, 0));
        eq("13 the month", 1, x.count(1));
        eq("13 a draw", 1103527590, x.count(7));
        for (int i = 0; i < 99; i++) {
            x.months(100);
        }
        eq("13 9901", 9901, x.count(1));
        x.months(100);
        eq("13 no more than 9999", 9999, x.count(1));
        int z = x.count(7);
        eq("13 none left", 0, x.months(100));
        eq("13 none left, no draw", z, x.count(7));
        eq("13 9999 stays", 9999, x.count(1));
        RiverProof full = new RiverProof();
        full.rule(0, 99);
        for (int m = 0; m < 10; m++) {
            full.pencil(2, 0, 0);
        }
        for (int i = 0; i < 100; i++) {
            full.months(100);
        }
        eq("13 the most sea", 99999, full.river(0));
        eq("13 the most floods", 99999, full.river(1));
        eq("12 no more sea", 0, full.runs());
        eq("15 no more floods", 99999, full.behind(9, 1));
    }

    private static void monthsOfMarks() {
        RiverProof x = withMarks(0, 80, 4, 3, 70, 4, 4, 2, 11, 2, 50, 4);
        x.water(4, 5);
        x.rule(0, 0);
        x.set(0, 3, 9999);
        // reach 4: 5 less 8 is 0, 3 more, 0 more; reach 11: 20, and 5 less 2 more, so 23
        eq("13 sea", 5, x.months(1));
        eq("13 held within 0", 8, x.reachOf(4, 0));
        eq("13 a stop adds", 23, x.reachOf(11, 0));
        eq("13 mark fades", 79, x.told(0, 1));
        eq("13 turned fades", 66, x.told(1, 1));
        eq("13 ink is 0 at least", 0, x.told(2, 1));
        eq("13 query does not fade", 50, x.told(3, 1));
        eq("13 stood is 9999 at most", 9999, x.told(0, 3));
        eq("13 stood", 1, x.told(1, 3));
        RiverProof flood = withMarks(2, 0, 0);
        flood.water(0, 96);
        flood.months(1);
        eq("13 two floods: the spring's and the mark's", 2, flood.river(1));
        RiverProof moved = withMarks(0, 0, 0, 0, 0, 0, 0, 0, 0);
        moved.rule(1, 100);
        moved.months(1);
        int first = 1103515245 + 12345;
        int second = first * 1103515245 + 12345;
        int third = second * 1103515245 + 12345;
        eq("13 the clerk's reach", (third >>> 8) % 12, moved.told((second >>> 8) % 3, 2));
        eq("13 three draws", third, moved.count(7));
        RiverProof bare = new RiverProof();
        bare.rule(1, 100);
        bare.months(1);
        eq("13 no marks, one draw", first, bare.count(7));
        RiverProof edge = withMarks(0, 0, 0);
        edge.rule(1, (first >>> 8) % 100);
        edge.months(1);
        eq("13 the rest is not below the clerk", first, edge.count(7));
        edge.seed(1);
        edge.rule(1, (first >>> 8) % 100 + 1);
        edge.months(1);
        eq("13 the rest is below the clerk", third, edge.count(7));
    }

    private static void river() {
        RiverProof x = withMarks(0, 80, 0, 0, 9, 1, 2, 0, 2, 5, 7, 2);
        x.runs();
        eq("14 sea", 5, x.river(0));
        eq("14 floods", 0, x.river(1));
        eq("14 water", 235, x.river(2));
        eq("14 ink", 96, x.river(3));
        eq("14 none dry", 0, x.river(4));
        eq("14 deepest, the least of several", 1, x.river(5));
        eq("14 working", 1, x.river(6));
        x.water(0, 0);
        x.water(11, 0);
        x.water(7, 21);
        eq("14 dry", 1 | 1 << 11, x.river(4));
        eq("14 deepest", 7, x.river(5));
        eq("14 7", BAD, x.river(7));
        eq("14 -1", BAD, x.river(-1));
    }

    private static void behind() {
        RiverProof x = withMarks(0, 80, 4, 4, 30, 0);
        x.rule(1, 50);
        String was = seen(x);
        eq("15 now", 240, x.behind(0, 2));
        eq("15 n -1", BAD, x.behind(-1, 0));
        eq("15 n 101", BAD, x.behind(101, 0));
        eq("15 what -1", BAD, x.behind(0, -1));
        eq("15 what 17", BAD, x.behind(0, 17));
        int[] then = new int[17];
        for (int what = 0; what < 17; what++) {
            then[what] = x.behind(100, what);
        }
        DUE.eq("15 nothing changes", was, seen(x));
        x.months(100);
        for (int what = 0; what < 17; what++) {
            eq("15 what " + what, what < 5 ? x.river(what) : x.reachOf(what - 5, 0), then[what]);
        }
        for (int i = 0; i < 99; i++) {
            x.months(100);
        }
        eq("15 the last month", 9999, x.count(1));
        x.rule(1, 0);
        x.pencil(0, 50, 0);
        eq("15 beyond it", 45, x.behind(5, 3));
    }

    private static void dries() {
        RiverProof x = withMarks(0, 99, 0, 0, 99, 0);
        x.rule(0, 0);
        eq("16 reach 0", 1, withZeroNext().dries(0));
        x.water(5, 0);
        eq("16 now", 0, x.dries(5));
        eq("16 none", NONE, x.dries(11));
        eq("16 reach 12", BAD, x.dries(12));
        eq("16 reach -1", BAD, x.dries(-1));
        // 18 less each month, then a fourth less: 61, 33, 12, 0
        x.water(0, 99);
        eq("16 later", 4, x.dries(0));
        RiverProof late = withMarks(0, 0, 0, 3, 0, 1);
        late.rule(0, 0);
        late.water(0, 3);
        late.water(1, 3);
        text(late, "stroke (t=199)*30");
        eq("16 behind 200 months", 200, late.dries(0));
        eq("17 behind 200 months", 200, late.rises(1, 4));
        text(late, "stroke (t=200)*30");
        eq("16 not by then", NONE, late.dries(0));
        eq("17 not by then", NONE, late.rises(1, 4));
    }

    /** REACH 0 has 18 WATER and two MARKS of 99 INK: 9 and 9 less. */
    private static RiverProof withZeroNext() {
        RiverProof x = withMarks(0, 99, 0, 0, 99, 0);
        x.rule(0, 0);
        x.water(0, 18);
        return x;
    }

    private static void rises() {
        RiverProof x = new RiverProof();
        eq("17 now", 0, x.rises(0, 20));
        eq("17 0", 0, x.rises(0, 0));
        eq("17 one month", 1, x.rises(0, 23));
        eq("17 two months", 2, x.rises(0, 25));
        eq("17 none", NONE, x.rises(0, 99));
        eq("17 v 100", BAD, x.rises(0, 100));
        eq("17 v -1", BAD, x.rises(0, -1));
        eq("17 reach 12", BAD, x.rises(12, 0));
        eq("17 reach -1", BAD, x.rises(-1, 0));
    }

    private static void rub() {
        RiverProof x = withZeroNext();
        eq("18 nothing is dry yet", 0, x.rub(0));
        eq("18 one of two, the least", 1, x.rub(1));
        x.set(0, 1, 0);
        eq("18 none has to", 0, x.rub(1));
        x.set(0, 1, 89);
        x.water(0, 8);
        eq("18 both", 3, x.rub(1));
        x.water(0, 9);
        eq("18 the second, the first's 8 leave one", 2, x.rub(1));
        x.water(5, 0);
        eq("18 by none", NONE, x.rub(0));
        eq("18 -1", BAD, x.rub(-1));
        eq("18 21", BAD, x.rub(21));
        eq("18 nothing changes", 89, x.told(0, 1));
        RiverProof last = withMarks(5, 9, 1, 0, 1, 0);
        last.rule(0, 0);
        text(last, "stroke (i>0)*30");
        eq("18 the last ink", 2, last.rub(1));
    }

    private static void ink() {
        RiverProof x = withMarks(0, 50, 0);
        x.rule(0, 0);
        // 20 less a tenth of ink, then less a fourth: 15 behind one month without ink
        eq("19 none needed", 0, x.ink(0, 1, 15));
        eq("19 14 needs 18 or less ahead of the run", 20, x.ink(0, 1, 14));
        eq("19 9 needs 12 or less", 80, x.ink(0, 1, 9));
        eq("19 now", 0, x.ink(0, 0, 20));
        eq("19 not now", NONE, x.ink(0, 0, 19));
        eq("19 not with 99", NONE, x.ink(0, 1, 8));
        eq("19 mark 1", BAD, x.ink(1, 1, 1));
        eq("19 n 61", BAD, x.ink(0, 61, 1));
        eq("19 n -1", BAD, x.ink(0, -1, 1));
        eq("19 v 100", BAD, x.ink(0, 1, 100));
        eq("19 v -1", BAD, x.ink(0, 1, -1));
        eq("19 ink stays", 50, x.told(0, 1));
        text(x, "stroke (i=99)*30");
        eq("19 the most", 99, x.ink(0, 1, 0));
        x.turns(0, 3);
        text(x, "stroke i");
        eq("19 more ink, more water", NONE, x.ink(0, 1, 14));
    }

    private static void place() {
        RiverProof x = withMarks(2, 0, 3);
        // 5 more water reaches the sea in a month only from reach 11: 25 / 4
        eq("20 reach", 11, x.place(0, 1, 0));
        eq("20 sea", 6, x.place(0, 1, 1));
        x.turns(0, 5);
        eq("20 all are one, the least", 0, x.place(0, 1, 0));
        eq("20 sea of these", 5, x.place(0, 1, 1));
        eq("20 n 0", BAD, x.place(0, 0, 0));
        eq("20 n 61", BAD, x.place(0, 61, 0));
        eq("20 what 2", BAD, x.place(0, 1, 2));
        eq("20 what -1", BAD, x.place(0, 1, -1));
        eq("20 mark 1", BAD, x.place(1, 1, 0));
        eq("20 it stays", 3, x.told(0, 2));
    }

    private static void becomes() {
        RiverProof x = withMarks(0, 99, 11);
        // 20 less 9, less 4, 4 less, 2 less, 4 more, nothing: a fourth of 24 is most, as turned
        eq("21 kind", 3, x.becomes(0, 1, 0));
        eq("21 sea", 6, x.becomes(0, 1, 1));
        x.set(0, 1, 0);
        eq("21 query", 2, x.becomes(0, 1, 0));
        x.set(0, 2, 0);
        eq("21 all are one, the least", 0, x.becomes(0, 1, 0));
        eq("21 n 0", BAD, x.becomes(0, 0, 0));
        eq("21 n 61", BAD, x.becomes(0, 61, 0));
        eq("21 what 2", BAD, x.becomes(0, 1, 2));
        eq("21 mark 1", BAD, x.becomes(1, 1, 0));
        eq("21 it stays", 0, x.told(0, 0));
    }

    private static void like() {
        RiverProof x = new RiverProof();
        eq("22 missing", NOTHING, x.like(0, 0));
        eq("22 sheet 4", BAD, x.like(4, 0));
        eq("22 sheet -1", BAD, x.like(-1, 0));
        eq("22 what 2 ahead of missing", BAD, x.like(0, 2));
        x.sheet(0, 1, 0);
        eq("22 empty", 0, x.like(0, 0));
        eq("22 empty, apart", 0, x.like(0, 1));
        eq("22 what 2", BAD, x.like(0, 2));
        // behind one month: 23, 22, 20, 20 ..
        x.sheet(0, 1, 3);
        x.mark(0, 0, 20);
        x.mark(0, 1, 22);
        x.mark(0, 2, NONE);
        eq("22 reach 1", 1, x.like(0, 0));
        eq("22 apart", 0, x.like(0, 1));
        x.mark(0, 0, NONE);
        x.mark(0, 1, -99999);
        eq("22 far below", 2, x.like(0, 0));
        eq("22 far below, apart", 100019, x.like(0, 1));
        x.sheet(1, 0, 1);
        x.mark(1, 0, 19);
        eq("22 shorts, the least of several", 0, x.like(1, 0));
        eq("22 shorts, apart", 1, x.like(1, 1));
        eq("22 no month passed", 0, x.count(1));
    }

    private static void fee() {
        RiverProof x = new RiverProof();
        x.months(1);
        eq("23 without a text: sea", 5, x.fee());
        eq("23 text", 0, text(x, "fee s*9+f"));
        eq("23 by it", 45, x.fee());
        x.water(0, 95);
        x.months(1);
        eq("23 floods", 5 * 9 + 5 * 9 + 1, x.fee());
        eq("23 another", 1, text(x, "fee 0-s"));
        eq("23 that told last", -10, x.fee());
    }

    private static void fine() {
        RiverProof x = withMarks(0, 30, 0, 1, 40, 0);
        x.set(1, 3, 7);
        eq("24 without a text: ink", 40, x.fine(1));
        eq("24 text", 0, text(x, "fine i*100+t"));
        eq("24 by it", 4007, x.fine(1));
        eq("24 of 0", 3000, x.fine(0));
        eq("24 mark 2", BAD, x.fine(2));
        eq("24 mark -1", BAD, x.fine(-1));
    }

    private static void feed() {
        RiverProof x = new RiverProof();
        for (int n = 12; n <= 96; n += 12) {
            eq("25 feed", n, x.feed(MIN, -1, MAX));
        }
        eq("25 full", FULL, x.feed(0, 0, 0));
        eq("25 96 still", 96, x.count(6));
        x.trim(85);
        eq("25 one too many", FULL, x.feed(0, 0, 0));
        x.trim(84);
        eq("25 room", 96, x.feed(0, 0, 0));
        x.trim(0);
        // "fee " "5+10" " * 2", the highest byte first
        x.feed(0x66656520, 0x352b3130, 0x202a2032);
        eq("25 the bytes' order", 0, x.text());
        eq("25 the bytes", 25, x.fee());
    }

    private static void trim() {
        RiverProof x = new RiverProof();
        eq("26 nothing", 0, x.trim(0));
        eq("26 1 of nothing", BAD, x.trim(1));
        x.feed(0, 0, 0);
        eq("26 all", 12, x.trim(12));
        eq("26 13", BAD, x.trim(13));
        eq("26 -1", BAD, x.trim(-1));
        eq("26 12 still", 12, x.count(6));
        eq("26 5", 5, x.trim(5));
        eq("26 not back to 6", BAD, x.trim(6));
        eq("26 it has", 5, x.count(6));
    }

    private static void text() {
        RiverProof x = new RiverProof();
        for (int i = 0; i < 14; i++) {
            eq("27 text " + i, i, text(x, "fee " + i));
        }
        eq("27 full", FULL, text(x, "fee 1"));
        eq("27 the tape is used up", 0, x.count(6));
        eq("27 a fault ahead of full", -104, text(x, "fee )"));
        eq("27 used up", 0, x.count(6));
        eq("27 the last still counts", 13, x.fee());
        eq("27 14", 14, x.count(4));
        eq("28 text 13", 1, x.textTold(13, 0));
        eq("28 text 14", BAD, x.textTold(14, 0));
        eq("28 text 15", BAD, x.textTold(15, 0));
        RiverProof y = new RiverProof();
        eq("27 blanks", 0, text(y, "  fee  ( s + 1 )  "));
        eq("27 no blanks", 1, text(y, "fine(i)"));
        eq("27 not", 2, text(y, "stroke!i"));
        eq("27 96 bytes", 3, text(y, "fee 1" + "+1".repeat(45) + " "));
        eq("27 of them", 46, y.fee());
        eq("27 eight deep", 4, text(y, "fee ((((((((1))))))))+((((((((1))))))))"));
        eq("27 eight nots", 5, text(y, "fee !!!!!!!!1+!!!!!!!!1"));
        eq("27 eight of each", 6, text(y, "fee !(!(!(!(!(!(!(!(1))))))))"));
        eq("27 0007", 7, text(y, "fee 0007"));
        eq("27 seven", 7, y.fee());
    }

    private static void faults() {
        fault("", 0);
        fault("   ", 3);
        fault("stroke", 6);
        fault("stroke ", 7);
        fault("strokes 1", 0);
        fault(" Fee 1", 1);
        fault("fee1", 3);
        fault("fee 12345", 4);
        fault("fee 1 2", 6);
        fault("fee 1s", 5);
        fault("fee ss", 4);
        fault("fee i", 4);
        fault("fine s", 5);
        fault("fine w", 5);
        fault("stroke s", 7);
        fault("fee 1<2<3", 7);
        fault("fee 1=2>3", 7);
        fault("fee -1", 4);
        fault("fee 1+", 6);
        fault("fee 1+  ", 8);
        fault("fee (1", 6);
        fault("fee 1)", 5);
        fault("fee ()", 5);
        fault("fee 1 ! 2", 6);
        fault("fee !", 5);
        fault("fee (((((((((1)))))))))", 12);
        fault("fee !!!!!!!!!1", 12);
        fault("fee !(!(!(!(!(!(!(!(!1))))))))", 20);
        fault("fee 1\0", 5);
        fault("fee\t1", 3);
        fault("fee \u00ff", 4);
        fault("1 fee", 0);
        fault("fee fee", 4);
        fault("feea 1", 0);
        fault("zfee 1", 0);
        fault("fee sz", 4);
        fault("fee s`", 5);
        fault("fee s{", 5);
        fault("fee 1/", 6);
        fault("fee 1:", 5);
        fault("fee 90909", 4);
        fault("fee 1+(2*3))", 11);
        fault("fee (s f)", 7);
    }

    private static void values() {
        gives("1+2*3", 7);
        gives("(1+2)*3", 9);
        gives("9-3-2", 4);
        gives("100/7/2", 7);
        gives("(0-7)/2", -3);
        gives("7/0", 0);
        gives("1<2", 1);
        gives("2<2", 0);
        gives("2=2", 1);
        gives("2=3", 0);
        gives("2>2", 0);
        gives("3>2", 1);
        gives("2>3", 0);
        gives("5|0", 1);
        gives("0|0", 0);
        gives("5&7", 1);
        gives("5&0", 0);
        gives("1|0&0", 1);
        gives("1+1<3&4", 1);
        gives("!5", 0);
        gives("!0", 1);
        gives("!!5", 1);
        gives("!0*7", 7);
        gives("9999*9999*9999", 9999 * 9999 * 9999);
        gives("s+f", 0);
        // the least int by 0 less 1 wraps
        gives("(0-8192*8192*32)/(0-1)", MIN);
    }

    private static void textTold() {
        RiverProof x = new RiverProof();
        text(x, "stroke (i+1)*w-n/t");
        text(x, "fee !3");
        text(x, "fine t");
        eq("28 key", 0, x.textTold(0, 0));
        eq("28 operands", 5, x.textTold(0, 1));
        eq("28 key of 1", 1, x.textTold(1, 0));
        eq("28 operands of 1", 1, x.textTold(1, 1));
        eq("28 key of 2", 2, x.textTold(2, 0));
        eq("28 text 3", BAD, x.textTold(3, 0));
        eq("28 text -1", BAD, x.textTold(-1, 0));
        eq("28 what 2", BAD, x.textTold(0, 2));
        eq("28 what -1", BAD, x.textTold(0, -1));
    }

    private static void why() {
        RiverProof x = new RiverProof();
        text(x, "fee 1");
        text(x, "fine 1");
        text(x, "fee 2");
        eq("29 stroke", NONE, x.why(0));
        eq("29 fee", 2, x.why(1));
        eq("29 fine", 1, x.why(2));
        eq("29 3", BAD, x.why(3));
        eq("29 -1", BAD, x.why(-1));
        text(x, "fine )");
        eq("29 a fault changes nothing", 1, x.why(2));
    }

    private static void sheet() {
        RiverProof x = new RiverProof();
        eq("30 shorts", 24, x.sheet(0, 0, 24));
        eq("30 floats", 0, x.sheet(3, 1, 0));
        eq("30 25", BAD, x.sheet(0, 0, 25));
        eq("30 -1", SIZE, x.sheet(0, 0, -1));
        eq("30 least", SIZE, x.sheet(0, 1, MIN));
        eq("30 sheet 4", BAD, x.sheet(4, 0, -1));
        eq("30 sheet -1", BAD, x.sheet(-1, 0, 1));
        eq("30 sort 2", BAD, x.sheet(0, 2, -1));
        eq("30 sort -2", BAD, x.sheet(0, -2, 1));
        eq("30 24 still", 1, x.mark(0, 23, 7));
        eq("30 anew", 24, x.sheet(0, 0, 24));
        x.lay(0, 2, 0);
        eq("30 all 0", 0, x.item(0, 23));
        eq("30 missing, n any", 0, x.sheet(0, -1, 99));
        eq("30 missing", NOTHING, x.mark(0, 0, 0));
    }

    private static void mark() {
        RiverProof x = new RiverProof();
        eq("31 missing", NOTHING, x.mark(0, 0, 0));
        eq("31 sheet 4", BAD, x.mark(4, 0, 0));
        eq("31 sheet -1", BAD, x.mark(-1, 0, 0));
        x.sheet(0, 0, 2);
        x.sheet(1, 1, 2);
        eq("31 place 2", INDEX, x.mark(0, 2, NONE));
        eq("31 place -1", INDEX, x.mark(1, -1, MAX));
        eq("31 none in shorts", KIND, x.mark(0, 0, NONE));
        eq("31 shorts", 1, x.mark(0, 0, 70000));
        eq("31 shorts below 0", 1, x.mark(0, 1, 40000));
        eq("31 floats 100000", BAD, x.mark(1, 0, 100000));
        eq("31 floats -100000", BAD, x.mark(1, 0, -100000));
        eq("31 floats -99999", 1, x.mark(1, 0, -99999));
        eq("31 no number", 1, x.mark(1, 1, NONE));
        x.lay(0, 2, 0);
        x.lay(1, 2, 1);
        eq("31 lowest 16 bits", 4464, x.item(0, 0));
        eq("31 their sign", -25536, x.item(0, 1));
        eq("31 -99999", -99999, x.item(1, 0));
        eq("31 it is none", KIND, x.item(1, 1));
    }

    private static void pour() {
        RiverProof x = new RiverProof();
        eq("32 missing", NOTHING, x.pour(1));
        eq("32 sheet 4", BAD, x.pour(4));
        eq("32 sheet -1", BAD, x.pour(-1));
        x.sheet(1, 1, 4);
        x.mark(1, 0, -5);
        x.mark(1, 1, 20);
        x.mark(1, 2, NONE);
        x.mark(1, 3, 5000);
        eq("32 two are otherwise", 2, x.pour(1));
        int[] due = {0, 20, 20, 99, 20};
        for (int r = 0; r < due.length; r++) {
            eq("32 reach " + r, due[r], x.reachOf(r, 0));
        }
        eq("32 none now", 0, x.pour(1));
        x.sheet(2, 0, 24);
        eq("32 as long as there are reaches", 11, x.pour(2));
        eq("32 no floods", 0, x.river(1));
    }

    private static void reads() {
        RiverProof x = withMarks(0, 1, 4, 0, 1, 6);
        eq("33 missing", NOTHING, x.reads(0));
        eq("33 sheet 4", BAD, x.reads(4));
        eq("33 sheet -1", BAD, x.reads(-1));
        x.sheet(0, 1, 0);
        eq("33 empty", NONE, x.reads(0));
        x.sheet(0, 1, 4);
        eq("33 0 is not 4", 0, x.reads(0));
        x.mark(0, 0, NONE);
        eq("33 0 is not 6", 1, x.reads(0));
        x.mark(0, 1, 6);
        eq("33 no mark there", 2, x.reads(0));
        x.mark(0, 2, NONE);
        x.mark(0, 3, NONE);
        eq("33 all", NONE, x.reads(0));
    }

    private static void copy() {
        RiverProof x = new RiverProof();
        x.sheet(0, 0, 4);
        x.sheet(1, 0, 3);
        x.sheet(2, 1, 3);
        for (int i = 0; i < 4; i++) {
            x.mark(0, i, i + 1);
        }
        eq("34 from 4", BAD, x.copy(4, 0, 3, 0, 1));
        eq("34 to -1", BAD, x.copy(0, 0, -1, 0, 1));
        eq("34 from -1", BAD, x.copy(-1, 0, 0, 0, 1));
        eq("34 to 4", BAD, x.copy(0, 0, 4, 0, 1));
        eq("34 to 5", BAD, x.copy(0, 0, 5, 0, 1));
        eq("34 from a missing one", NOTHING, x.copy(3, 0, 0, 0, 99));
        eq("34 to a missing one", NOTHING, x.copy(0, 0, 3, 0, 99));
        eq("34 two sorts", KIND, x.copy(0, 0, 2, 0, 99));
        eq("34 beyond from", INDEX, x.copy(1, 1, 0, 0, 3));
        eq("34 beyond to", INDEX, x.copy(0, 0, 1, 0, 4));
        eq("34 below", INDEX, x.copy(0, -1, 1, 0, 1));
        eq("34 below at", INDEX, x.copy(0, 0, 1, -1, 1));
        eq("34 many below 0", INDEX, x.copy(0, 0, 1, 0, -1));
        eq("34 wrapping", INDEX, x.copy(0, MAX, 1, 0, MAX));
        eq("34 none at the end", 0, x.copy(0, 4, 1, 3, 0));
        eq("34 none beyond the end", INDEX, x.copy(0, 5, 1, 3, 0));
        eq("34 up in itself, as they were", 3, x.copy(0, 0, 0, 1, 3));
        sheetIs(x, 0, 1, 1, 2, 3);
        eq("34 down in itself", 2, x.copy(0, 2, 0, 0, 2));
        sheetIs(x, 0, 2, 3, 2, 3);
        eq("34 to another", 2, x.copy(0, 1, 1, 1, 2));
        sheetIs(x, 1, 0, 3, 2);
        x.mark(2, 0, NONE);
        eq("34 no number", 1, x.copy(2, 0, 2, 2, 1));
        x.lay(4, 2, 2);
        eq("34 it came", KIND, x.item(4, 2));
    }

    private static void sheetIs(RiverProof x, int sheet, int... due) {
        x.lay(4, 2, sheet);
        for (int i = 0; i < due.length; i++) {
            eq("34 sheet " + sheet + " place " + i, due[i], x.item(4, i));
        }
        eq("34 sheet " + sheet + " ends", INDEX, x.item(4, due.length));
    }

    private static void lay() {
        RiverProof x = withMarks(3, 70, 2);
        x.sheet(0, 0, 1);
        eq("35 slot 5", BAD, x.lay(5, 0, 0));
        eq("35 slot -1", BAD, x.lay(-1, 0, 0));
        eq("35 thing 4", BAD, x.lay(0, 4, 0));
        eq("35 thing -1", BAD, x.lay(0, -1, 0));
        eq("35 mark 1", BAD, x.lay(0, 1, 1));
        eq("35 sheet 4", BAD, x.lay(0, 2, 4));
        eq("35 sheet -1", BAD, x.lay(0, 2, -1));
        eq("35 mark -1", BAD, x.lay(0, 1, -1));
        eq("35 missing", NOTHING, x.lay(0, 2, 1));
        eq("35 a mark", 0, x.lay(0, 1, 0));
        eq("35 a sheet", 1, x.lay(0, 2, 0));
        eq("35 missing, it stays", NOTHING, x.lay(0, 2, 1));
        eq("35 a number", 2, x.lay(0, 3, MIN));
        eq("35 nothing, k any", 3, x.lay(0, 0, 77));
        eq("35 nothing", 0, x.lay(0, 0, -1));
        x.lay(0, 2, 0);
        x.lay(1, 2, 0);
        x.mark(0, 0, 9);
        eq("35 a row of its own", 0, x.item(0, 0));
        x.sheet(0, -1, 0);
        eq("35 for good", 0, x.item(1, 0));
    }

    private static void ask() {
        RiverProof x = withMarks(3, 70, 2, 4, 60, 3);
        eq("36 nothing", NOTHING, x.ask(0, 0));
        eq("36 slot 5", BAD, x.ask(5, 0));
        eq("36 kind 6", BAD, x.ask(0, 6));
        eq("36 kind -1", BAD, x.ask(0, -1));
        x.set(0, 3, 11);
        x.lay(0, 1, 0);
        x.lay(1, 1, 1);
        x.lay(2, 3, 5);
        x.set(0, 1, 0);
        x.turns(0, 0);
        eq("36 as a mark", 40, x.ask(0, 0));
        eq("36 as a caret", 40, x.ask(0, 1));
        eq("36 as a query", KIND, x.ask(0, 2));
        eq("36 as turned", 40, x.ask(0, 3));
        eq("36 stop as query", 46, x.ask(1, 2));
        eq("36 stop as stet", KIND, x.ask(1, 5));
        eq("36 a number", KIND, x.ask(2, 0));
    }

    private static void item() {
        RiverProof x = withMarks(0, 1, 0);
        eq("37 nothing", NOTHING, x.item(0, 0));
        eq("37 slot 5", BAD, x.item(5, 0));
        eq("37 slot -1", BAD, x.item(-1, 0));
        x.lay(0, 1, 0);
        eq("37 a mark", KIND, x.item(0, 0));
        x.sheet(0, 1, 2);
        x.mark(0, 0, 99999);
        x.mark(0, 1, NONE);
        x.lay(0, 2, 0);
        eq("37 a place", 99999, x.item(0, 0));
        eq("37 no number", KIND, x.item(0, 1));
        eq("37 place 2", INDEX, x.item(0, 2));
        eq("37 place -1", INDEX, x.item(0, -1));
    }

    private static void rest() {
        RiverProof x = withMarks(0, 1, 0);
        eq("38 nothing", NOTHING, x.rest(0, 0));
        eq("38 slot 5", BAD, x.rest(5, 0));
        x.lay(0, 1, 0);
        eq("38 a mark", KIND, x.rest(0, 0));
        x.lay(0, 3, -17);
        eq("38 by 0", NO, x.rest(0, 0));
        eq("38 by 5", -2, x.rest(0, 5));
        eq("38 by -5", -2, x.rest(0, -5));
        x.lay(0, 3, MIN);
        eq("38 the least by -1", 0, x.rest(0, -1));
    }

    private static void tell() {
        RiverProof x = new RiverProof();
        for (int n = 1; n <= 60; n++) {
            eq("39 tell", n, x.tell(MIN));
        }
        eq("39 full", FULL, x.tell(0));
        eq("39 60 wait", 60, x.count(5));
    }

    private static int checked(RiverProof x, int n, int... told) {
        for (int v : told) {
            x.tell(v);
        }
        int answer = x.check(n);
        eq("40 none wait", 0, x.count(5));
        return answer;
    }

    private static void check() {
        RiverProof x = new RiverProof();
        eq("40 no image", NO, checked(x, 1, 5, 245));
        eq("40 0 ahead of no image", BAD, checked(x, 0, 5));
        x.keep();
        x.rule(0, 99);
        x.months(7);
        eq("40 31", BAD, checked(x, 31, 5));
        eq("40 one month", 0, checked(x, 1, 5, 245));
        eq("40 two months", 0, checked(x, 2, 5, 245, 10, 250));
        eq("40 none told", 1, checked(x, 1));
        eq("40 the first", 1, checked(x, 1, 6, 245));
        eq("40 the second", 2, checked(x, 1, 5, 244));
        eq("40 missing", 2, checked(x, 1, 5));
        eq("40 missing a month", 3, checked(x, 2, 5, 245));
        eq("40 one too many", 3, checked(x, 1, 5, 245, 10));
        eq("40 the fourth", 4, checked(x, 2, 5, 245, 10, 251, 0));
        eq("40 nothing changes", 7, x.count(1));
        for (int i = 0; i < 100; i++) {
            x.months(100);
        }
        x.keep();
        eq("40 no month is left", 0, checked(x, 30));
        eq("40 one too many of none", 1, checked(x, 30, 0));
        for (int i = 0; i < 30; i++) {
            x.tell(0);
            x.tell(0);
        }
        eq("40 60 told", 1, x.check(30));
    }

    private static void keepAndBack() {
        RiverProof x = withMarks(3, 70, 2, 4, 60, 3);
        eq("42 none", NO, x.back());
        text(x, "stroke i/9");
        x.rule(1, 40);
        x.months(3);
        eq("41 keep", 2, x.keep());
        String was = seen(x);
        for (int again = 0; again < 2; again++) {
            x.deal(3);
            x.rule(0, 50);
            x.rule(1, 99);
            x.turns(0, 5);
            x.set(1, 2, 9);
            x.water(0, 99);
            x.months(20);
            text(x, "stroke 3");
            text(x, "fee 7");
            eq("42 back", 2, x.back());
            DUE.eq("42 all is as it was", was, seen(x));
            eq("42 no fee", x.river(0), x.fee());
        }
        x.sheet(0, 0, 3);
        x.lay(0, 3, 8);
        x.feed(0, 0, 0);
        x.tell(1);
        x.back();
        eq("42 sheets stay", 1, x.mark(0, 2, 1));
        eq("42 slots stay", 3, x.rest(0, 5));
        eq("42 the tape stays", 12, x.count(6));
        eq("42 numbers wait", 1, x.count(5));
        x.deal(8);
        eq("41 another", 10, x.keep());
        eq("42 that one", 10, x.back());
    }

    private static void count() {
        RiverProof x = withMarks(0, 0, 0);
        x.rule(0, 7);
        x.rule(1, 8);
        text(x, "fee 1");
        x.tell(0);
        x.tell(0);
        x.feed(0, 0, 0);
        x.months(3);
        x.seed(-9);
        int[] due = {1, 3, 7, 8, 1, 2, 12, -9};
        for (int what = 0; what < 8; what++) {
            eq("43 count " + what, due[what], x.count(what));
        }
        eq("43 8", BAD, x.count(8));
        eq("43 -1", BAD, x.count(-1));
    }
}
