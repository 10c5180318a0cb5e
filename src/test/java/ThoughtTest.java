import java.util.Random;

/** What is only thought of must be what comes when the same months really pass; keep and back undo these. */
public final class ThoughtTest {
    private static final Due DUE = new Due("thoughts");
    private static final int NONE = RiverProof.NONE;

    public static void main(String[] args) {
        for (int seed = 1; seed <= 60; seed++) {
            Random random = new Random(seed);
            RiverProof x = new RiverProof();
            x.seed(random.nextInt());
            x.deal(1 + random.nextInt(6));
            x.rule(0, random.nextInt(6));
            x.rule(1, seed % 3 == 0 ? 0 : random.nextInt(101));
            x.months(1 + random.nextInt(5));
            if (seed % 4 == 0) {
                // "stroke i/5+n"
                x.feed(0x7374726f, 0x6b652069, 0x2f352b6e);
                x.text();
            }
            x.keep();
            String was = PromiseTest.seen(x);
            behind(x, random.nextInt(101));
            driesAndRises(x, random.nextInt(100));
            rub(x, random.nextInt(21));
            int mark = random.nextInt(x.count(0));
            ink(x, mark, random.nextInt(61), random.nextInt(30));
            places(x, mark, 1 + random.nextInt(60));
            becomes(x, mark, 1 + random.nextInt(60));
            like(x, random);
            DUE.eq("run " + seed + " changed nothing", was, PromiseTest.seen(x));
        }
        DUE.end();
    }

    private static void pass(RiverProof x, int n) {
        if (n > 0) {
            x.months(n);
        }
    }

    private static void behind(RiverProof x, int n) {
        int[] thought = new int[17];
        for (int what = 0; what < 17; what++) {
            thought[what] = x.behind(n, what);
        }
        pass(x, n);
        for (int what = 0; what < 17; what++) {
            DUE.eq("behind " + n + " " + what, what < 5 ? x.river(what) : x.reachOf(what - 5, 0), thought[what]);
        }
        x.back();
    }

    private static void driesAndRises(RiverProof x, int v) {
        int[] dries = new int[12];
        int[] rises = new int[12];
        for (int r = 0; r < 12; r++) {
            dries[r] = x.dries(r);
            rises[r] = x.rises(r, v);
        }
        int[] dry = new int[12];
        int[] high = new int[12];
        java.util.Arrays.fill(dry, NONE);
        java.util.Arrays.fill(high, NONE);
        for (int n = 200; n >= 0; n--) {
            x.back();
            pass(x, n / 2);
            pass(x, n - n / 2);
            for (int r = 0; r < 12; r++) {
                dry[r] = x.reachOf(r, 0) == 0 ? n : dry[r];
                high[r] = x.reachOf(r, 0) >= v ? n : high[r];
            }
        }
        x.back();
        for (int r = 0; r < 12; r++) {
            DUE.eq("dries " + r, dry[r], dries[r]);
            DUE.eq("rises " + r + " " + v, high[r], rises[r]);
        }
    }

    private static void rub(RiverProof x, int n) {
        int thought = x.rub(n);
        int best = NONE;
        for (int set = 0; set < 1 << x.count(0); set++) {
            for (int m = 0; m < x.count(0); m++) {
                if ((set >> m & 1) == 1) {
                    x.set(m, 1, 0);
                }
            }
            pass(x, n);
            if (x.river(4) == 0 && (best == NONE || Integer.bitCount(set) < Integer.bitCount(best))) {
                best = set;
            }
            x.back();
        }
        DUE.eq("rub " + n, best, thought);
    }

    private static void ink(RiverProof x, int mark, int n, int v) {
        int thought = x.ink(mark, n, v);
        int reach = x.told(mark, 2);
        int best = NONE;
        for (int ink = 99; ink >= 0; ink--) {
            x.set(mark, 1, ink);
            pass(x, n);
            best = x.reachOf(reach, 0) <= v ? ink : best;
            x.back();
        }
        DUE.eq("ink " + mark + " " + n + " " + v, best, thought);
    }

    private static void places(RiverProof x, int mark, int n) {
        int reach = x.place(mark, n, 0);
        int sea = x.place(mark, n, 1);
        int best = NONE;
        int most = -1;
        for (int r = 0; r < 12; r++) {
            x.set(mark, 2, r);
            x.months(n);
            best = x.river(0) > most ? r : best;
            most = Math.max(most, x.river(0));
            x.back();
        }
        DUE.eq("place " + mark + " " + n, best, reach);
        DUE.eq("sea of place " + mark + " " + n, most, sea);
    }

    private static void becomes(RiverProof x, int mark, int n) {
        int kind = x.becomes(mark, n, 0);
        int sea = x.becomes(mark, n, 1);
        int best = NONE;
        int most = -1;
        for (int k = 0; k < 6; k++) {
            x.turns(mark, k);
            x.months(n);
            best = x.river(0) > most ? k : best;
            most = Math.max(most, x.river(0));
            x.back();
        }
        DUE.eq("becomes " + mark + " " + n, best, kind);
        DUE.eq("sea of becomes " + mark + " " + n, most, sea);
    }

    private static void like(RiverProof x, Random random) {
        int size = random.nextInt(25);
        int[] row = new int[size];
        x.sheet(0, 1, size);
        for (int k = 0; k < size; k++) {
            row[k] = random.nextInt(5) == 0 ? NONE : random.nextInt(40);
            x.mark(0, k, row[k]);
        }
        int reach = x.like(0, 0);
        int apart = x.like(0, 1);
        int[] sums = new int[12];
        for (int k = 0; k < size; k++) {
            pass(x, k);
            for (int r = 0; r < 12; r++) {
                sums[r] += row[k] == NONE ? 0 : Math.abs(x.reachOf(r, 0) - row[k]);
            }
            x.back();
        }
        int best = 0;
        for (int r = 1; r < 12; r++) {
            best = sums[r] < sums[best] ? r : best;
        }
        DUE.eq("like", best, reach);
        DUE.eq("apart", sums[best], apart);
    }
}
