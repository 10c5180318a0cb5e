/** Section 5 of the terms, as far as SHEETS and SLOTS go, and promises 30 to 38. */
final class SheetEdges {
    private static final int T = Edges.TERMS;

    private SheetEdges() {
    }

    static void hold(Edges e) {
        sheets(e);
        findings(e);
        shorts(e);
        floats(e);
        pour(e);
        reads(e);
        copy(e);
        slots(e);
        lay(e);
        ask(e);
        item(e);
        rest(e);
    }

    /** A SHEET with these places, of floats if sort is 1. */
    private static void make(RiverProof x, int sheet, int sort, int... places) {
        x.sheet(sheet, sort, places.length);
        for (int i = 0; i < places.length; i++) {
            x.mark(sheet, i, places[i]);
        }
    }

    /** A SHEET has these places and no more; SLOT 4 is used up by it. */
    private static void is(Edges e, RiverProof x, int sheet, int... places) {
        x.lay(4, 2, sheet);
        for (int i = 0; i < places.length; i++) {
            int due = places[i] == RiverProof.NONE ? RiverProof.KIND : places[i];
            e.eq("sheet " + sheet + " place " + i, due, x.item(4, i));
        }
        e.eq("sheet " + sheet + " ends", RiverProof.INDEX, x.item(4, places.length));
    }

    private static void sheets(Edges e) {
        e.says(T, "5 SHEETS 0 .. 3 are rows of shorts (sort 0) or floats (1; whole numbers), with 0 to 24 places, or MISSING (at first).");
        RiverProof x = new RiverProof();
        for (int sheet = 0; sheet < 4; sheet++) {
            String s = sheet + "";
            e.rows(x, "pour " + s + " = NOTHING", "sheet " + s + " 0 0 = 0", "pour " + s + " = 0", "mark " + s + " 0 0 = INDEX",
                "sheet " + s + " 1 24 = 24", "mark " + s + " 23 5 = 1", "mark " + s + " 24 5 = INDEX", "sheet " + s + " 0 25 = BAD",
                "sheet " + s + " 0 -1 = SIZE", "mark " + s + " 23 NONE = 1", "sheet " + s + " 0 1 = 1", "mark " + s + " 0 NONE = KIND",
                "mark " + s + " 1 5 = INDEX", "sheet " + s + " -1 0 = 0", "pour " + s + " = NOTHING");
        }
        e.rows(x, "sheet 4 0 1 = BAD", "sheet -1 0 1 = BAD", "pour 4 = BAD", "pour -1 = BAD");
        e.says(30, "A SHEET becomes a row of n places of a sort, all 0 (sort -1: MISSING, n any): n (0).");
        make(x, 0, 1, 7, RiverProof.NONE, -7);
        e.rows(x, "sheet 0 1 3 = 3");
        is(e, x, 0, 0, 0, 0);
        make(x, 0, 1, 7, RiverProof.NONE, -7);
        e.rows(x, "sheet 0 0 24 = 24");
        is(e, x, 0, new int[24]);
        e.rows(x, "sheet 0 1 0 = 0");
        is(e, x, 0);
        make(x, 1, 0, 1, 2);
        for (String n : new String[] {"0", "1", "24", "25", "-1", "MIN", "MAX"}) {
            e.rows(x, "sheet 0 0 3 = 3", "sheet 0 -1 " + n + " = 0", "mark 0 0 0 = NOTHING", "sheet 0 -1 " + n + " = 0");
        }
        is(e, x, 1, 1, 2);
    }

    private static void findings(Edges e) {
        e.says(T, "FINDINGS: NOTHING: a SHEET is MISSING, a SLOT holds nothing; INDEX: there is no such place; SIZE: a number of places is"
            + " below 0; KIND: it is none (of a KIND, a number, or another thing).");
        e.rows(new RiverProof(), "reads 0 = NOTHING", "ask 0 0 = NOTHING", "sheet 0 0 -1 = SIZE", "sheet 0 1 2 = 2", "mark 0 2 0 = INDEX",
            "mark 0 -1 0 = INDEX", "mark 0 0 NONE = 1", "lay 0 2 0 = 0", "item 0 0 = KIND", "item 0 1 = 0", "rest 0 1 = KIND",
            "ask 0 0 = KIND", "pencil 0 1 0 = 0", "as 0 1 = KIND");
    }

    private static void shorts(Edges e) {
        e.says(31, "A place of a SHEET becomes v (of shorts its lowest 16 bits;");
        int[] told = {0, 1, -1, 32767, 32768, 65535, 65536, 65537, -32768, -32769, 70000, Integer.MIN_VALUE, Integer.MAX_VALUE,
            RiverProof.BAD, RiverProof.NO, RiverProof.NONE - 1, RiverProof.NONE + 1};
        RiverProof x = new RiverProof();
        e.rows(x, "sheet 2 0 1");
        for (int v : told) {
            e.rows(x, "mark 2 0 " + v + " = 1");
            is(e, x, 2, (v << 16) >> 16);
        }
        e.says(31, "KIND: NONE in a row of shorts;");
        e.rows(x, "mark 2 0 -5 = 1", "mark 2 0 NONE = KIND", "mark 2 1 NONE = INDEX");
        is(e, x, 2, -5);
    }

    private static void floats(Edges e) {
        e.says(31, "of floats v, -99999 .. 99999; NONE: NO NUMBER): 1.");
        RiverProof x = new RiverProof();
        e.rows(x, "sheet 3 1 24", "mark 3 0 -99999 = 1", "mark 3 1 99999 = 1", "mark 3 2 NONE = 1", "mark 3 23 1 = 1",
            "mark 3 3 32768 = 1");
        e.says(31, "BAD: v of floats.");
        e.rows(x, "mark 3 0 -100000 = BAD", "mark 3 1 100000 = BAD", "mark 3 1 MIN = BAD", "mark 3 1 MAX = BAD", "mark 3 2 BAD = BAD",
            "mark 3 24 0 = INDEX", "mark 3 -1 0 = INDEX", "mark 3 MAX 0 = INDEX");
        is(e, x, 3, -99999, 99999, RiverProof.NONE, 32768, 0, 0, 0, 0, 0, 0, 0, 0, 0, 0, 0, 0, 0, 0, 0, 0, 0, 0, 0, 1);
        e.says(T, "A place of floats may be NO NUMBER.");
        e.rows(x, "mark 3 2 0 = 1", "mark 3 0 NONE = 1");
        is(e, x, 3, RiverProof.NONE, 99999, 0, 32768, 0, 0, 0, 0, 0, 0, 0, 0, 0, 0, 0, 0, 0, 0, 0, 0, 0, 0, 0, 1);
    }

    private static void pour(Edges e) {
        e.says(32, "WATER of REACHES, by numbers, becomes the places of a SHEET from 0 on (each held within 0 and 99; NO NUMBER, and beyond"
            + " the SHEET: it stays): how many are otherwise then. BAD; NOTHING.");
        RiverProof x = new RiverProof();
        make(x, 0, 1, -99999, -1, 0, 1, 98, 99, 100, 99999, RiverProof.NONE, 20);
        int[] due = {0, 0, 0, 1, 98, 99, 99, 99, 20, 20, 20, 20};
        e.rows(x, "pour 0 = 8");
        for (int r = 0; r < 12; r++) {
            e.rows(x, "reachOf " + r + " 0 = " + due[r]);
        }
        e.rows(x, "pour 0 = 0", "river 1 = 0", "count 1 = 0");
        make(x, 1, 0, -32768, 32767);
        e.rows(x, "pour 1 = 1", "reachOf 0 0 = 0", "reachOf 1 0 = 99", "reachOf 2 0 = 0");
        make(x, 1, 0);
        e.rows(x, "pour 1 = 0", "sheet 1 0 24", "mark 1 11 7", "mark 1 12 50", "pour 1 = 10", "reachOf 11 0 = 7", "river 2 = 7",
            "pour 1 = 0", "sheet 1 0 11", "mark 1 10 3", "water 11 9", "pour 1 = 1", "reachOf 11 0 = 9", "reachOf 10 0 = 3",
            "sheet 1 0 12", "pour 1 = 2", "river 2 = 0", "pour 4 = BAD", "pour -1 = BAD", "pour 2 = NOTHING");
        make(x, 2, 1, RiverProof.NONE, RiverProof.NONE);
        e.rows(x, "pour 2 = 0", "river 2 = 0");
    }

    private static void reads(Edges e) {
        e.says(33, "The first place (of numbers alone) at which a SHEET is not the REACH of that MARK (of places that are no MARK all"
            + " numbers are not). BAD; NOTHING; NONE: there is none.");
        RiverProof x = new RiverProof();
        make(x, 0, 0);
        make(x, 1, 1, RiverProof.NONE);
        e.rows(x, "reads 0 = NONE", "reads 1 = NONE", "sheet 2 0 24", "reads 2 = 0", "reads 3 = NOTHING", "reads 4 = BAD", "reads -1 = BAD");
        for (int m = 0; m < 10; m++) {
            x.pencil(0, 0, m == 0 ? 0 : 11);
        }
        make(x, 2, 0, 0, 11, 11, 11, 11, 11, 11, 11, 11, 11);
        e.rows(x, "reads 2 = NONE", "mark 2 9 12", "reads 2 = 9", "mark 2 0 -1", "reads 2 = 0", "reads 0 = NONE");
        make(x, 2, 0, 0, 11, 11, 11, 11, 11, 11, 11, 11, 11, 11);
        e.rows(x, "reads 2 = 10", "set 5 2 10", "reads 2 = 5");
        x.sheet(3, 1, 24);
        for (int i = 0; i < 23; i++) {
            x.mark(3, i, RiverProof.NONE);
        }
        e.rows(x, "reads 3 = 23", "mark 3 23 NONE", "reads 3 = NONE", "mark 3 9 11", "reads 3 = NONE", "mark 3 9 10", "reads 3 = 9",
            "mark 3 9 NONE", "mark 3 10 11", "reads 3 = 10");
    }

    private static void copy(Edges e) {
        e.says(34, "So many places of a SHEET come to another one (or the same), as they were: many.");
        RiverProof x = new RiverProof();
        make(x, 0, 0, 1, 2, 3, 4, 5);
        make(x, 1, 0, 7, 8, 9);
        e.rows(x, "copy 0 0 0 0 5 = 5");
        is(e, x, 0, 1, 2, 3, 4, 5);
        e.rows(x, "copy 0 0 0 1 4 = 4");
        is(e, x, 0, 1, 1, 2, 3, 4);
        e.rows(x, "copy 0 1 0 0 4 = 4");
        is(e, x, 0, 1, 2, 3, 4, 4);
        e.rows(x, "copy 0 2 1 0 3 = 3");
        is(e, x, 1, 3, 4, 4);
        is(e, x, 0, 1, 2, 3, 4, 4);
        e.rows(x, "copy 1 0 0 4 1 = 1", "copy 0 5 1 3 0 = 0", "copy 0 0 1 0 0 = 0");
        is(e, x, 0, 1, 2, 3, 4, 3);
        is(e, x, 1, 3, 4, 4);
        make(x, 2, 1, RiverProof.NONE, -99999);
        make(x, 3, 1, 5, 6, 7);
        e.rows(x, "copy 2 0 3 1 2 = 2", "copy 3 0 2 0 1 = 1");
        is(e, x, 3, 5, RiverProof.NONE, -99999);
        is(e, x, 2, 5, -99999);
        e.says(34, "INDEX.");
        e.rows(x, "copy 0 3 1 0 3 = INDEX", "copy 1 0 0 3 3 = INDEX", "copy 0 6 1 0 0 = INDEX", "copy 0 0 1 4 0 = INDEX",
            "copy 0 MAX 1 0 MAX = INDEX", "copy 0 1 1 1 MAX = INDEX", "copy 0 1 1 0 -1 = INDEX", "copy 0 MIN 1 0 1 = INDEX",
            "copy 0 0 1 MIN 1 = INDEX");
        is(e, x, 0, 1, 2, 3, 4, 3);
        is(e, x, 1, 3, 4, 4);
        make(x, 0, 0);
        e.rows(x, "copy 0 0 0 0 0 = 0", "copy 0 0 0 0 1 = INDEX", "copy 0 0 1 3 0 = 0", "copy 1 3 0 0 0 = 0");
    }

    private static void slots(Edges e) {
        e.says(T, "SLOTS 0 .. 4 each hold nothing (at first), a MARK (as it is then, for good), a SHEET (a row of its own, as it was then), or"
            + " a number.");
        RiverProof x = new RiverProof();
        for (int slot = 0; slot < 5; slot++) {
            e.rows(x, "ask " + slot + " 0 = NOTHING", "item " + slot + " 0 = NOTHING", "rest " + slot + " 1 = NOTHING",
                "lay " + slot + " 3 " + (slot + 20) + " = 0", "rest " + slot + " 20 = " + slot);
        }
        e.rows(x, "lay 5 3 1 = BAD", "lay -1 3 1 = BAD", "pencil 3 71 0 = 0", "set 0 3 10", "keep = 1", "lay 0 1 0 = 3");
        // (71 + 10) / 2, whatever becomes of the MARK
        e.rows(x, "ask 0 1 = 40", "turns 0 2", "ask 0 1 = 40", "set 0 1 5", "set 0 3 0", "months 3", "ask 0 3 = 40", "back = 1",
            "ask 0 0 = 40", "ask 0 2 = KIND", "lay 1 1 0 = 3", "turns 0 0", "ask 1 3 = 40", "lay 1 1 0 = 1", "ask 1 3 = KIND",
            "ask 1 0 = 71");
        make(x, 0, 0, 1, 2);
        e.rows(x, "lay 2 2 0 = 3", "mark 0 0 9", "item 2 0 = 1", "lay 3 2 0 = 3", "item 3 0 = 9", "sheet 0 1 5", "item 2 1 = 2",
            "item 2 2 = INDEX", "sheet 0 -1 0", "item 3 1 = 2", "lay 2 2 0 = NOTHING", "item 2 0 = 1", "back = 1", "item 2 0 = 1");
    }

    private static void lay(Edges e) {
        e.says(35, "A SLOT holds: thing 0 nothing, 1 MARK k, 2 SHEET k, 3 the number k: what it held (0 .. 3).");
        RiverProof x = new RiverProof();
        e.rows(x, "pencil 0 9 0 = 0", "sheet 3 0 0 = 0", "lay 4 0 0 = 0", "lay 4 1 0 = 0", "lay 4 2 3 = 1", "lay 4 3 MIN = 2",
            "lay 4 3 MAX = 3", "lay 4 0 MIN = 3", "lay 4 0 MAX = 0", "ask 4 0 = NOTHING", "lay 4 2 3 = 0", "lay 4 2 3 = 2",
            "item 4 0 = INDEX", "lay 4 1 0 = 2", "lay 4 1 0 = 1", "lay 4 0 99 = 1", "rest 4 5 = NOTHING");
        e.says(35, "BAD: slot, thing, k; NOTHING: that SHEET is MISSING.");
        e.rows(x, "lay 0 1 1 = BAD", "lay 0 1 -1 = BAD", "lay 0 2 4 = BAD", "lay 0 2 -1 = BAD", "lay 0 4 0 = BAD", "lay 0 -1 0 = BAD",
            "lay 0 2 0 = NOTHING", "lay 0 2 1 = NOTHING", "lay 0 2 2 = NOTHING", "lay 0 0 0 = 0");
    }

    private static void ask(Edges e) {
        e.says(36, "WORTH of the MARK in a SLOT, taken for one of a KIND (0 .. 5). BAD; NOTHING; KIND: it is no MARK, or not of that KIND, nor"
            + " of one under it.");
        RiverProof x = new RiverProof();
        e.rows(x, "pencil 4 99 0 = 0", "pencil 1 99 0 = 1", "set 1 3 9999", "lay 0 1 0", "lay 1 1 1", "lay 2 3 0", "ask 0 0 = 7",
            "ask 0 2 = 7", "ask 0 4 = 7", "ask 0 1 = KIND", "ask 0 3 = KIND", "ask 0 5 = KIND", "ask 1 0 = 10098", "ask 1 1 = 10098",
            "ask 1 3 = KIND", "ask 2 0 = KIND", "ask 3 0 = NOTHING", "ask 0 6 = BAD", "ask 0 -1 = BAD", "ask 5 0 = BAD", "ask -1 0 = BAD");
    }

    private static void item(Edges e) {
        e.says(37, "A place of the SHEET in a SLOT. BAD: slot; NOTHING; KIND: it is no SHEET; INDEX; KIND: NO NUMBER.");
        RiverProof x = new RiverProof();
        make(x, 0, 1, 99999, RiverProof.NONE, -99999);
        make(x, 1, 0, 32767, -32768);
        e.rows(x, "lay 0 2 0", "lay 1 2 1", "lay 2 3 5", "sheet 2 1 24", "lay 4 2 2", "item 0 0 = 99999", "item 0 1 = KIND",
            "item 0 2 = -99999", "item 0 3 = INDEX", "item 0 -1 = INDEX", "item 0 MIN = INDEX", "item 0 MAX = INDEX", "item 1 0 = 32767",
            "item 1 1 = -32768", "item 1 2 = INDEX", "item 2 0 = KIND", "item 3 0 = NOTHING", "item 4 23 = 0", "item 4 24 = INDEX",
            "item 5 0 = BAD", "item -1 0 = BAD");
    }

    private static void rest(Edges e) {
        e.says(38, "The rest of the number in a SLOT by n. BAD: slot; NOTHING; KIND: it is no number; NO: n is 0.");
        RiverProof x = new RiverProof();
        e.rows(x, "lay 0 3 17", "rest 0 5 = 2", "rest 0 -5 = 2", "rest 0 17 = 0", "rest 0 18 = 17", "rest 0 1 = 0", "rest 0 -1 = 0",
            "rest 0 0 = NO", "rest 0 MAX = 17", "rest 0 MIN = 17", "lay 0 3 -17", "rest 0 5 = -2", "rest 0 -5 = -2", "lay 0 3 0",
            "rest 0 5 = 0", "rest 0 0 = NO", "lay 0 3 MIN", "rest 0 -1 = 0", "rest 0 MIN = 0", "rest 0 MAX = -1", "rest 0 10 = -8",
            "lay 0 3 MAX", "rest 0 MIN = MAX", "rest 0 MAX = 0", "rest 0 10 = 7", "rest 5 1 = BAD", "rest -1 1 = BAD", "rest 1 1 = NOTHING",
            "rest 1 0 = NOTHING");
    }
}
