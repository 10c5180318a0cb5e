/** Section 5 of the terms, as far as images and rows that are told go, and promises 39 to 43. */
final class ImageEdges {
    private static final int T = Edges.TERMS;

    private ImageEdges() {
    }

    static void hold(Edges e) {
        tell(e);
        check(e);
        checkMost(e);
        fewer(e);
        image(e);
        count(e);
    }

    private static void tell(Edges e) {
        e.says(39, "One more number waits: how many. FULL: 60 wait.");
        RiverProof x = new RiverProof();
        for (int n = 1; n <= 60; n++) {
            e.rows(x, "tell " + (n % 2 == 0 ? "MIN" : "MAX") + " = " + n, "count 5 = " + n);
        }
        e.rows(x, "tell 0 = FULL", "tell MIN = FULL", "count 5 = 60", "check 1 = NO", "count 5 = 0", "tell 0 = 1", "back = NO", "count 5 = 1");
    }

    /** Tells these numbers and checks n MONTHS; none wait then. */
    private static void checked(Edges e, RiverProof x, int n, int want, int... told) {
        for (int v : told) {
            x.tell(v);
        }
        e.rows(x, "count 5 = " + told.length, "check " + n + " = " + want, "count 5 = 0");
    }

    private static void check(Edges e) {
        e.says(40, "The numbers that wait (none do then, whatever is answered) are THE MONTHS TOLD of n (1 .. 30; fewer, if THE MONTH would be"
            + " above 9999), two by two: 0; else 1 and how many stand right ahead of the first that is not (or is missing, or one too many)."
            + " BAD; NO: there is no IMAGE.");
        RiverProof x = new RiverProof();
        checked(e, x, 1, RiverProof.NO, 5, 245);
        checked(e, x, 0, RiverProof.BAD, 5, 245);
        checked(e, x, 31, RiverProof.BAD);
        x.keep();
        x.rule(0, 99);
        x.months(9);
        checked(e, x, 0, RiverProof.BAD, 5);
        checked(e, x, 31, RiverProof.BAD, 5);
        checked(e, x, 1, 0, 5, 245);
        checked(e, x, 1, 1);
        checked(e, x, 1, 1, 6, 245);
        checked(e, x, 1, 1, 245, 5);
        checked(e, x, 1, 2, 5);
        checked(e, x, 1, 2, 5, 246);
        checked(e, x, 1, 3, 5, 245, 10);
        checked(e, x, 1, 3, 5, 245, 10, 250);
        checked(e, x, 1, 2, 5, 244, 10);
        checked(e, x, 2, 3, 5, 245);
        checked(e, x, 2, 4, 5, 245, 10);
        checked(e, x, 2, 0, 5, 245, 10, 250);
        checked(e, x, 2, 3, 5, 245, 9, 250);
        checked(e, x, 2, 5, 5, 245, 10, 250, 15);
        e.says(T, "THE MONTHS TOLD: of n MONTHS, one behind the other, by THE IMAGE: SEA; WATER of all, together, behind each.");
        e.rows(x, "count 1 = 9", "count 2 = 99", "back = 0", "count 1 = 0", "count 7 = 1");
        checked(e, x, 2, 0, 5, 245, 10, 250);
    }

    private static void checkMost(Edges e) {
        e.says(40, "of n (1 .. 30;");
        RiverProof x = new RiverProof();
        e.rows(x, "deal 10 = 10", "rule 1 50 = 0", "rule 0 80 = 10", "keep = 10");
        int[] told = new int[61];
        for (int i = 0; i < 30; i++) {
            x.months(1);
            told[2 * i] = x.river(0);
            told[2 * i + 1] = x.river(2);
        }
        checked(e, x, 30, 0, java.util.Arrays.copyOf(told, 60));
        checked(e, x, 30, 60, java.util.Arrays.copyOf(told, 59));
        told[59]++;
        checked(e, x, 30, 60, java.util.Arrays.copyOf(told, 60));
        checked(e, x, 29, 59, java.util.Arrays.copyOf(told, 60));
        checked(e, x, 29, 0, java.util.Arrays.copyOf(told, 58));
        checked(e, x, 30, 59, java.util.Arrays.copyOf(told, 58));
    }

    private static void fewer(Edges e) {
        e.says(40, "fewer, if THE MONTH would be above 9999");
        RiverProof x = new RiverProof();
        x.rule(0, 0);
        x.water(11, 3);
        for (int r = 0; r < 11; r++) {
            x.water(r, 0);
        }
        e.rows(x, "99* months 100", "months 97", "count 1 = 9997", "keep = 0");
        checked(e, x, 1, 0, 0, 3);
        checked(e, x, 2, 0, 0, 3, 0, 3);
        checked(e, x, 2, 3, 0, 3);
        checked(e, x, 3, 0, 0, 3, 0, 3);
        checked(e, x, 30, 0, 0, 3, 0, 3);
        checked(e, x, 30, 5, 0, 3, 0, 3, 0, 3);
        checked(e, x, 30, 4, 0, 3, 0);
        e.rows(x, "months 1", "keep = 0");
        checked(e, x, 30, 0, 0, 3);
        checked(e, x, 30, 3, 0, 3, 0, 3);
        e.rows(x, "months 1", "count 1 = 9999", "keep = 0");
        checked(e, x, 1, 0);
        checked(e, x, 30, 0);
        checked(e, x, 30, 1, 0);
        checked(e, x, 31, RiverProof.BAD);
        // it is THE MONTH of the IMAGE that counts, not that of now
        RiverProof later = new RiverProof();
        e.rows(later, "keep = 0", "99* months 100", "months 97", "count 1 = 9997");
        checked(e, later, 2, 0, 5, 245, 10, 250);
        e.rows(later, "months 100", "count 1 = 9999");
        checked(e, later, 2, 0, 5, 245, 10, 250);
        checked(e, later, 30, 5, 5, 245, 10, 250);
    }

    private static void image(Edges e) {
        e.says(T, "AN IMAGE keeps all but SHEETS, SLOTS, numbers that wait, THE TAPE; all can become as it is (again and again).");
        RiverProof x = new RiverProof();
        e.rows(x, "back = NO", "count 0 = 0");
        e.says(41, "AN IMAGE is kept: how many MARKS.");
        e.rows(x, "keep = 0", "deal 10 = 10", "keep = 10", "keep = 10");
        e.says(42, "All is as THE IMAGE: how many MARKS. NO: there is none.");
        e.rows(x, "back = 10", "back = 10", "count 0 = 10", "pencil 0 0 0 = FULL");
        for (String made : new String[] {"rich", "full"}) {
            // all that an image keeps is altered, twice, and is as it was each time
            RiverProof y = Made.object(made, true);
            e.rows(y, "trim 0 = 0", "keep = " + (made.equals("rich") ? 7 : 10));
            String was = seen(y);
            for (int again = 0; again < 2; again++) {
                alter(y);
                e.eq(made + " was altered", false, was.equals(seen(y)));
                e.rows(y, "back = " + (made.equals("rich") ? 7 : 10));
                e.eq(made + " is as it was", was, seen(y));
            }
        }
        // what an image does not keep stays as it is now
        RiverProof z = new RiverProof();
        e.rows(z, "keep = 0", "sheet 0 0 2", "mark 0 1 8", "lay 1 3 77", "pencil 0 50 0", "lay 2 1 0", "tell 5", "feed 0 0 0", "back = 0",
            "mark 0 2 0 = INDEX", "lay 0 2 0 = 0", "item 0 1 = 8", "rest 1 10 = 7", "ask 2 0 = 50", "count 5 = 1", "count 6 = 12",
            "told 0 0 = BAD", "lay 3 1 0 = BAD");
        // an image is not touched by what comes later, nor by check, for which the 5 that waits is right
        e.rows(z, "pencil 3 40 5 = 0", "keep = 1", "check 30 = 2", "set 0 1 0", "turns 0 0", "set 0 2 0", "set 0 3 9", "back = 1",
            "told 0 1 = 40", "told 0 0 = 3", "told 0 2 = 5", "told 0 3 = 0", "months 5", "keep = 1", "back = 1", "count 1 = 5");
    }

    private static String seen(RiverProof x) {
        StringBuilder s = new StringBuilder(PromiseTest.seen(x)).append(x.fee());
        for (int m = 0; m < x.count(0); m++) {
            s.append(' ').append(x.fine(m));
        }
        return s.toString();
    }

    private static void alter(RiverProof x) {
        x.back();
        x.deal(2);
        x.turns(1, 5);
        x.set(2, 1, 98);
        x.set(2, 2, 10);
        x.set(2, 3, 9);
        x.water(11, 98);
        x.rule(0, 77);
        x.rule(1, 78);
        x.seed(79);
        for (String text : new String[] {"stroke 1", "fee 2", "fine 3"}) {
            Edges.tape(x, text);
            x.text();
        }
        x.months(2);
    }

    private static void count(Edges e) {
        e.says(43, "0 how many MARKS, 1 THE MONTH, 2 SPRING, 3 CLERK, 4 TEXTS, 5 numbers that wait, 6 bytes of THE TAPE, 7 z. BAD.");
        RiverProof full = Made.object("full", true);
        e.rows(full, "count 0 = 10", "count 1 = 9999", "count 2 = 60", "count 3 = 0", "count 4 = 14", "count 5 = 60", "count 6 = 96",
            "count 8 = BAD", "count -1 = BAD", "count MIN = BAD", "count MAX = BAD", "seed -3", "count 7 = -3");
        e.rows(new RiverProof(), "count 0 = 0", "count 1 = 0", "count 2 = 10", "count 3 = 0", "count 4 = 0", "count 5 = 0", "count 6 = 0",
            "count 7 = 1");
    }
}
