/** Section 1 of the terms, and promises 1 to 11. */
final class MarkEdges {
    private static final int T = Edges.TERMS;

    private MarkEdges() {
    }

    static void hold(Edges e) {
        calls(e);
        first(e);
        reachesAndMarks(e);
        kinds(e);
        rules(e);
        plain(e);
        adds(e);
        stets(e);
        fadesAndWorth(e);
        reachOf(e);
        draws(e);
        deal(e);
    }

    private static void calls(Edges e) {
        e.says(Edges.WHAT_IT_IS, "An object is used for at most 512 calls after it has been made; what later calls answer is free.");
        RiverProof x = new RiverProof();
        e.rows(x, "deal 10 = 10", "rule 1 50 = 0", "200* months 1", "300* text = -100", "9* keep = 10", "back = 10");
    }

    private static void first(Edges e) {
        e.says(1, "As told; no MARKS.");
        RiverProof x = new RiverProof();
        e.rows(x, "count 0 = 0", "told 0 0 = BAD", "reachOf 0 1 = 0", "river 3 = 0", "river 6 = 0", "fine 0 = BAD",
            "count 1 = 0", "count 2 = 10", "count 3 = 0", "count 4 = 0", "count 5 = 0", "count 6 = 0", "count 7 = 1",
            "river 0 = 0", "river 1 = 0", "fee = 0", "why 0 = NONE", "why 1 = NONE", "why 2 = NONE", "text = -100",
            "back = NO", "check 1 = NO", "keep = 0", "back = 0");
        for (int sheet = 0; sheet < 4; sheet++) {
            e.rows(x, "reads " + sheet + " = NOTHING", "lay 0 2 " + sheet + " = NOTHING");
        }
        for (int slot = 0; slot < 5; slot++) {
            e.rows(x, "rest " + slot + " 1 = NOTHING", "lay " + slot + " 0 0 = 0");
        }
    }

    private static void reachesAndMarks(Edges e) {
        e.says(T, "1 REACHES 0 .. 11, each with WATER 0 .. 99 (20 at first).");
        RiverProof x = new RiverProof();
        for (int r = 0; r < 12; r++) {
            e.rows(x, "reachOf " + r + " 0 = 20", "water " + r + " 99 = 20", "water " + r + " 100 = BAD",
                "water " + r + " -1 = BAD", "water " + r + " 0 = 99", "reachOf " + r + " 0 = 0");
        }
        e.rows(x, "reachOf 12 0 = BAD", "reachOf -1 0 = BAD", "water 12 5 = BAD", "water -1 5 = BAD", "river 2 = 0");
        e.says(T, "MARKS, 10 at most, numbered from 0:");
        x = new RiverProof();
        for (int m = 0; m < 10; m++) {
            e.rows(x, "told " + m + " 0 = BAD", "pencil 5 " + (90 + m) + " 11 = " + m, "told " + m + " 1 = " + (90 + m));
        }
        e.rows(x, "pencil 0 0 0 = FULL", "deal 1 = 0", "count 0 = 10", "told 10 0 = BAD", "told -1 0 = BAD");
        e.says(T, "INK 0 .. 99, a REACH, STOOD 0 .. 9999 (0 at first)");
        x = new RiverProof();
        e.rows(x, "pencil 0 0 11 = 0", "pencil 0 99 0 = 1", "told 0 1 = 0", "told 1 1 = 99", "told 0 3 = 0", "told 1 3 = 0",
            "set 0 3 9999 = 0", "set 0 3 10000 = BAD", "told 0 3 = 9999", "set 0 1 99 = 0", "set 0 1 100 = BAD",
            "set 0 1 -1 = BAD", "set 0 1 0 = 99", "set 0 2 0 = 11", "set 0 2 12 = BAD", "set 0 2 11 = 0", "set 0 3 -1 = BAD",
            "set 0 3 0 = 9999", "told 0 0 = 0", "told 1 1 = 99", "told 1 2 = 0");
    }

    private static void kinds(Edges e) {
        e.says(T, "and of KINDS: 0 MARK; 1 CARET, 2 QUERY, 5 STET, under MARK; 3 TURNED, under CARET; 4 STOP, under QUERY"
            + " (all are MARKS).");
        int[] under = {0b000001, 0b000011, 0b000101, 0b001011, 0b010101, 0b100001};
        RiverProof x = new RiverProof();
        for (int m = 0; m < 6; m++) {
            e.rows(x, "pencil " + m + " " + (50 + m) + " " + m + " = " + m, "lay 0 1 " + m, "set " + m + " 3 7 = 0");
            for (int kind = 0; kind < 6; kind++) {
                boolean is = (under[m] >> kind & 1) == 1;
                e.rows(x, "as " + m + " " + kind + " = " + (is ? 50 + m : RiverProof.KIND));
                e.eq("ask of " + m + " as " + kind, is, x.ask(0, kind) != RiverProof.KIND);
            }
        }
        e.says(5, "One is of another KIND from now on: what it was.");
        e.rows(x, "turns 0 5 = 0", "as 0 5 = 50", "as 0 1 = KIND", "turns 0 0 = 5", "as 0 5 = KIND", "turns 0 0 = 0",
            "told 0 1 = 50", "told 0 2 = 0", "told 0 3 = 7", "turns 5 3 = 5", "as 5 1 = 55", "told 4 0 = 4");
    }

    private static void rules(Edges e) {
        e.says(T, "RULES: 0 SPRING 0 .. 99 (10 at first), 1 CLERK 0 .. 100 (0).");
        RiverProof x = new RiverProof();
        e.rows(x, "count 2 = 10", "count 3 = 0", "rule 0 99 = 10", "rule 0 100 = BAD", "rule 0 -1 = BAD", "rule 0 0 = 99",
            "rule 1 100 = 0", "rule 1 101 = BAD", "rule 1 -1 = BAD", "rule 1 0 = 100", "rule 2 0 = BAD", "rule -1 0 = BAD",
            "rule 0 100 = BAD", "rule 1 99 = 0", "count 2 = 0", "count 3 = 99");
    }

    private static void plain(Edges e) {
        e.says(T, "PLAIN stroke: what stroke gives, held within 0 and 30 (without a TEXT: a tenth (cut) of INK, held likewise).");
        RiverProof x = new RiverProof();
        e.rows(x, "pencil 0 0 0 = 0", "told 0 4 = 0", "set 0 1 9", "told 0 4 = 0", "set 0 1 10", "told 0 4 = -1",
            "set 0 1 19", "told 0 4 = -1", "set 0 1 20", "told 0 4 = -2", "set 0 1 89", "told 0 4 = -8", "set 0 1 90",
            "told 0 4 = -9", "set 0 1 99", "told 0 4 = -9");
        e.text(x, "stroke t-50", 0);
        int[] stood = {0, 49, 50, 51, 79, 80, 81, 9999};
        int[] plain = {0, 0, 0, 1, 29, 30, 30, 30};
        for (int i = 0; i < stood.length; i++) {
            e.rows(x, "set 0 3 " + stood[i], "told 0 4 = " + -plain[i]);
        }
        e.text(x, "stroke 8192*8192*32", 1);
        e.rows(x, "told 0 4 = 0");
        e.text(x, "stroke 8192*8192*32-1", 2);
        e.rows(x, "told 0 4 = -30");
        e.says(T, "of stroke i INK, w WATER of its REACH, t STOOD, n how many MARKS are in that;");
        x = new RiverProof();
        e.rows(x, "pencil 0 7 4 = 0", "pencil 0 8 5 = 1", "pencil 0 9 4 = 2", "water 4 0", "water 5 13", "set 1 3 3");
        e.text(x, "stroke i+w+t+n", 0);
        e.rows(x, "told 0 4 = -9", "told 1 4 = -25", "told 2 4 = -11", "set 2 2 5", "told 0 4 = -8", "told 1 4 = -26");
    }

    private static void adds(Edges e) {
        e.says(T, "ADDS (may be below 0): MARK: 0 less PLAIN. CARET: half (cut) of as MARK. TURNED: 0 less as CARET. QUERY: as"
            + " MARK, and 5. STOP: as QUERY, less a tenth (cut) of WATER of its REACH. STET: 0.");
        int[] plain = {0, 1, 2, 4, 5, 6, 29, 30};
        int[][] due = {{0, 0, 5, 0, 3, 0}, {-1, 0, 4, 0, 2, 0}, {-2, -1, 3, 1, 1, 0}, {-4, -2, 1, 2, -1, 0},
            {-5, -2, 0, 2, -2, 0}, {-6, -3, -1, 3, -3, 0}, {-29, -14, -24, 14, -26, 0}, {-30, -15, -25, 15, -27, 0}};
        RiverProof x = new RiverProof();
        e.rows(x, "pencil 0 0 3 = 0");
        e.text(x, "stroke t", 0);
        for (int i = 0; i < plain.length; i++) {
            x.set(0, 3, plain[i]);
            for (int kind = 0; kind < 6; kind++) {
                x.turns(0, kind);
                e.eq("kind " + kind + " of " + plain[i] + " adds", due[i][kind], x.told(0, 4));
            }
        }
        e.rows(x, "turns 0 4 = 5", "set 0 3 0", "water 3 0", "told 0 4 = 5", "water 3 9", "told 0 4 = 5", "water 3 10",
            "told 0 4 = 4", "water 3 89", "told 0 4 = -3", "water 3 90", "told 0 4 = -4", "water 3 99", "told 0 4 = -4");
    }

    private static void stets(Edges e) {
        e.says(T, "But all ADD 0 that are in a REACH in which a STET is.");
        RiverProof x = new RiverProof();
        for (int kind = 0; kind < 6; kind++) {
            x.pencil(kind, 99, 11);
        }
        for (int m = 0; m < 6; m++) {
            e.rows(x, "told " + m + " 4 = 0");
        }
        e.rows(x, "reachOf 11 2 = 0", "reachOf 11 3 = 1", "river 6 = 0", "set 5 2 10 = 11", "reachOf 11 3 = 0",
            "reachOf 10 3 = 1", "river 6 = 31", "told 0 4 = -9", "turns 5 0 = 5", "reachOf 10 3 = 0", "river 6 = 63");
    }

    private static void fadesAndWorth(Edges e) {
        e.says(T, "FADES (INK by a month): MARK: 1. CARET: as MARK, and 1. TURNED: twice as CARET. QUERY: 0. STOP: as QUERY,"
            + " and 3. STET: 0.");
        int[] fades = {1, 2, 0, 4, 3, 0};
        RiverProof x = new RiverProof();
        for (int kind = 0; kind < 6; kind++) {
            e.rows(x, "pencil " + kind + " 0 0 = " + kind, "told " + kind + " 5 = " + fades[kind]);
        }
        e.says(T, "WORTH: MARK: INK. CARET: as MARK, and STOOD. TURNED: half (cut) of as CARET. QUERY: 99 less INK. STOP: as"
            + " QUERY, and 7. STET: STOOD.");
        int[][] inkStood = {{0, 0}, {0, 1}, {1, 0}, {1, 1}, {99, 0}, {0, 9999}, {99, 9998}, {99, 9999}};
        int[][] worth = {{0, 0, 99, 0, 106, 0}, {0, 1, 99, 0, 106, 1}, {1, 1, 98, 0, 105, 0}, {1, 2, 98, 1, 105, 1},
            {99, 99, 0, 49, 7, 0}, {0, 9999, 99, 4999, 106, 9999}, {99, 10097, 0, 5048, 7, 9998}, {99, 10098, 0, 5049, 7, 9999}};
        for (int i = 0; i < inkStood.length; i++) {
            for (int kind = 0; kind < 6; kind++) {
                x.set(kind, 1, inkStood[i][0]);
                x.set(kind, 3, inkStood[i][1]);
                x.lay(0, 1, kind);
                e.rows(x, "told " + kind + " 6 = " + worth[i][kind], "ask 0 " + kind + " = " + worth[i][kind]);
            }
        }
    }

    private static void reachOf(Edges e) {
        e.says(8, "Of a REACH: what 0 WATER, 1 MARKS in it, as a set, 2 what these ADD, together, as all is, 3 1 if a STET is"
            + " in it, else 0.");
        RiverProof x = new RiverProof();
        e.rows(x, "reachOf 11 0 = 20", "reachOf 11 1 = 0", "reachOf 11 2 = 0", "reachOf 11 3 = 0");
        for (int m = 0; m < 10; m++) {
            x.pencil(m == 9 ? 4 : 0, 99, 11);
        }
        // nine times 9 less, and 5 less 9 less 2: each as all is now, not as it will be at its turn
        e.rows(x, "reachOf 11 1 = 1023", "reachOf 11 2 = -87", "reachOf 10 1 = 0", "reachOf 10 2 = 0",
            "set 9 2 0", "reachOf 11 1 = 511", "reachOf 11 2 = -81", "reachOf 0 1 = 512", "reachOf 0 2 = -6", "reachOf 1 2 = 0", "set 0 2 10", "reachOf 11 1 = 510", "reachOf 10 1 = 1");
    }

    private static void draws(Edges e) {
        e.says(T, "z is told (1 at first). A draw: z becomes z * 1103515245 + 12345 (an int); it gives z >>> 8.");
        e.rows(new RiverProof(), "count 7 = 1", "months 1 = 5", "count 7 = 1103527590");
        for (int z : new int[] {Integer.MIN_VALUE, -1, 0, 1, 2, Integer.MAX_VALUE}) {
            RiverProof x = new RiverProof();
            e.rows(x, "seed " + z + " = 1", "count 7 = " + z, "deal 1 = 1", "count 7 = " + Edges.drawn(z, 3));
            e.rows(x, "told 0 0 = " + Edges.draw(z, 1) % 6, "told 0 1 = " + Edges.draw(z, 2) % 100,
                "told 0 2 = " + Edges.draw(z, 3) % 12, "told 0 3 = 0");
        }
        e.says(11, "z becomes v: what it was.");
        e.rows(new RiverProof(), "seed MIN = 1", "seed MAX = MIN", "seed 0 = MAX", "seed -1 = 0", "count 7 = -1");
    }

    private static void deal(Edges e) {
        e.says(T, "MARKS that are drawn: KIND the rest of a draw by 6, INK that of one more by 100, REACH that of one more by 12.");
        int[] by = {6, 100, 12};
        for (int what = 0; what < 3; what++) {
            for (int edge : new int[] {0, by[what] - 1}) {
                int z = 0;
                while (Edges.draw(z, what + 1) % by[what] != edge) {
                    z++;
                }
                e.rows(new RiverProof(), "seed " + z, "deal 1 = 1", "told 0 " + what + " = " + edge);
            }
        }
        e.says(10, "MARKS are drawn, n (1 .. 10) of them, as many as there is room for (no draws for others): how many came. BAD.");
        e.rows(new RiverProof(), "deal 10 = 10", "count 0 = 10", "count 7 = " + Edges.drawn(1, 30), "deal 10 = 0",
            "count 7 = " + Edges.drawn(1, 30), "deal 11 = BAD", "deal 0 = BAD");
        e.rows(new RiverProof(), "9* pencil 0 0 0", "deal 10 = 1", "count 7 = " + Edges.drawn(1, 3), "count 0 = 10",
            "told 9 0 = " + Edges.draw(1, 1) % 6, "deal 1 = 0", "count 7 = " + Edges.drawn(1, 3));
        e.rows(new RiverProof(), "3* pencil 0 0 0", "deal 7 = 7", "count 7 = " + Edges.drawn(1, 21), "count 0 = 10");
        e.rows(new RiverProof(), "4* pencil 0 0 0", "deal 7 = 6", "count 7 = " + Edges.drawn(1, 18), "count 0 = 10");
        e.rows(new RiverProof(), "deal 0 = BAD", "deal 11 = BAD", "count 7 = 1", "count 0 = 0");
    }
}
