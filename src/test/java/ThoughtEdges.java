/** Section 3 of the terms, and promises 15 to 24. */
final class ThoughtEdges {
    private static final int T = Edges.TERMS;
    /** Each kind of thought, with arguments that a new object with one MARK takes. */
    private static final String[] THOUGHTS = {"behind 100 0", "behind 100 16", "dries 11", "rises 0 99", "rub 20", "ink 0 60 0",
        "place 0 60 0", "becomes 0 60 1", "like 1 0", "fee", "fine 0"};

    private ThoughtEdges() {
    }

    static void hold(Edges e) {
        nothingChanges(e);
        withoutTheBound(e);
        behind(e);
        driesAndRises(e);
        rub(e);
        rubAll(e);
        ink(e);
        place(e);
        becomes(e);
        like(e);
        feeAndFine(e);
    }

    /** No SPRING, and 3 WATER or less in each REACH: nothing runs but what MARKS bring about. */
    private static RiverProof still(int water) {
        RiverProof x = new RiverProof();
        x.rule(0, 0);
        for (int r = 0; r < 12; r++) {
            x.water(r, water);
        }
        return x;
    }

    private static void nothingChanges(Edges e) {
        e.says(T, "(All that follows is only thought, z as it is, without the bound of THE MONTH: nothing changes.)");
        for (String made : new String[] {"rich", "full"}) {
            for (String thought : THOUGHTS) {
                if (!(made.equals("full") && thought.startsWith("like"))) {
                    int first = Edges.call(Made.object(made, true), thought);
                    RiverProof x = Made.object(made, true);
                    e.eq(made + ": " + thought + " once", first, Edges.call(x, thought));
                    e.eq(made + ": " + thought + " again", first, Edges.call(x, thought));
                    for (int look = 0; look < 3; look++) {
                        RiverProof y = Made.object(made, true);
                        Edges.call(y, thought);
                        e.eq(made + ": behind " + thought, Made.look(Made.object(made, true), look), Made.look(y, look));
                    }
                }
            }
        }
        // with the clerk, months that are thought of draw from z on as it is, each time anew
        RiverProof x = new RiverProof();
        e.rows(x, "deal 10 = 10", "rule 1 100 = 0", "seed -77");
        int sea = x.behind(60, 0);
        int water = x.behind(60, 2);
        e.rows(x, "count 7 = -77", "behind 60 0 = " + sea, "months 60 = " + sea, "river 2 = " + water);
    }

    private static void withoutTheBound(Edges e) {
        e.says(T, "without the bound of THE MONTH");
        RiverProof x = still(3);
        e.rows(x, "100* months 100", "count 1 = 9999", "pencil 0 50 0 = 0", "pencil 2 0 11 = 1", "sheet 0 0 2", "mark 0 0 3",
            "mark 0 1 6");
        // the MARK takes 5 of the 3, the QUERY adds 5 and 2 of the 8 run to the SEA
        e.rows(x, "behind 1 0 = 2", "behind 1 3 = 49", "behind 1 4 = 1", "behind 1 16 = 6", "dries 0 = 1", "rises 11 6 = 1",
            "rub 1 = 1", "ink 0 1 2 = 10", "place 1 1 1 = 2", "becomes 1 1 0 = 2", "becomes 1 1 1 = 2", "like 0 0 = 11",
            "like 0 1 = 0", "count 1 = 9999", "river 0 = 0");
        e.rows(x, "months 1 = 0", "river 3 = 50", "behind 100 3 = 0");
    }

    private static void behind(Edges e) {
        e.says(15, "BEHIND n (0 .. 100) MONTHS: what 0 SEA, 1 FLOODS, 2 WATER of all, 3 INK of all, 4 DRY ones; 5 and r: WATER of"
            + " REACH r. BAD.");
        e.rows(new RiverProof(), "behind 0 0 = 0", "behind 0 2 = 240", "behind 0 3 = 0", "behind 0 4 = 0", "behind 0 5 = 20",
            "behind 1 5 = 23", "behind 1 6 = 22", "behind 1 16 = 20", "behind 1 0 = 5", "behind 2 0 = 10", "behind 0 17 = BAD",
            "behind 101 0 = BAD", "behind -1 0 = BAD", "behind 0 -1 = BAD");
        RiverProof x = still(0);
        e.rows(x, "pencil 0 99 5", "water 11 1", "behind 0 3 = 99", "behind 98 3 = 1", "behind 99 3 = 0", "behind 100 3 = 0",
            "behind 0 4 = 2047", "behind 100 4 = 2047", "behind 100 16 = 1", "behind 100 15 = 0");
        RiverProof flood = still(3);
        e.rows(flood, "pencil 2 0 7", "water 7 95", "behind 0 1 = 0", "behind 1 1 = 1", "behind 0 12 = 95", "behind 1 12 = 75",
            "water 7 94", "behind 1 1 = 0", "behind 1 12 = 75");
        RiverProof most = new RiverProof();
        e.rows(most, "rule 0 99", "deal 10 = 10", "rule 1 40");
        int[] then = new int[17];
        for (int what = 0; what < 17; what++) {
            then[what] = most.behind(100, what);
        }
        most.months(100);
        for (int what = 0; what < 17; what++) {
            e.eq("behind 100 " + what, what < 5 ? most.river(what) : most.reachOf(what - 5, 0), then[what]);
        }
    }

    private static void driesAndRises(Edges e) {
        e.says(T, "DRIES of a REACH: behind how many MONTHS (0 .. 200) it is DRY first.");
        for (int month : new int[] {1, 2, 199, 200, 201}) {
            RiverProof x = still(3);
            e.rows(x, "pencil 0 0 11", "pencil 3 0 0");
            e.text(x, "stroke (t=" + (month - 1) + ")*30", 0);
            e.rows(x, "dries 11 = " + (month > 200 ? "NONE" : month), "rises 0 4 = " + (month > 200 ? "NONE" : month));
        }
        RiverProof x = still(3);
        e.rows(x, "water 4 0", "dries 4 = 0", "water 4 1", "dries 4 = NONE", "dries 0 = NONE", "dries 12 = BAD", "dries -1 = BAD");
        // DRY now and not behind a month; DRY once and not for good
        e.rows(x, "pencil 2 0 6", "water 6 0", "dries 6 = 0", "water 6 1", "dries 6 = NONE");
        RiverProof once = still(3);
        e.rows(once, "pencil 0 0 3", "pencil 2 50 3");
        e.text(once, "stroke (i=0)*(t=4)*30+(i>0)*(t=4)*5", 0);
        e.rows(once, "dries 3 = 5", "behind 5 8 = 0", "behind 6 8 = 4");
        e.says(16, "NONE: not by then.");
        e.rows(new RiverProof(), "dries 0 = NONE", "dries 11 = NONE");
        e.says(T, "RISES of a REACH, v: behind how many MONTHS (0 .. 200) its WATER is v or more first.");
        x = new RiverProof();
        e.rows(x, "rises 0 0 = 0", "rises 0 20 = 0", "rises 0 21 = 1", "rises 0 23 = 1", "rises 0 24 = 2", "rises 0 25 = 2",
            "water 11 99", "rises 11 99 = 0", "water 11 98", "rises 11 99 = NONE", "rises 0 100 = BAD", "rises 0 -1 = BAD",
            "rises 12 0 = BAD", "rises -1 0 = BAD", "water 5 0", "rises 5 0 = 0", "rises 5 1 = 1");
        e.says(17, "NONE: not by then.");
        e.rows(still(3), "rises 0 3 = 0", "rises 0 4 = NONE", "rises 11 99 = NONE");
    }

    private static void rub(Edges e) {
        e.says(T, "RUB for n: the set of fewest MARKS such that, if INK of these is 0 now, no REACH is DRY behind n MONTHS; of"
            + " several the least.");
        // 0 and 1 take 1 each, 2 takes 2 of the 2 WATER: 2 alone is fewer than 0 and 1, though 4 is above 3
        RiverProof x = still(2);
        e.rows(x, "pencil 0 10 0", "pencil 0 10 0", "pencil 0 29 0", "water 0 3", "rub 1 = 4", "water 0 4", "rub 1 = 1",
            "water 0 2", "rub 1 = 5", "water 0 1", "rub 1 = 7", "water 0 0", "rub 1 = NONE");
        e.rows(x, "told 0 1 = 10", "told 1 1 = 10", "told 2 1 = 29");
        // none has to be: no MARKS, or none that take too much
        e.rows(still(1), "rub 0 = 0", "rub 20 = 0");
        e.rows(new RiverProof(), "rub 0 = 0", "rub 20 = 0", "deal 10 = 10", "rub 0 = 0");
        // of several the least
        x = still(3);
        for (int m = 0; m < 10; m++) {
            x.pencil(0, 30, 11);
        }
        e.rows(x, "rub 1 = 1023", "set 9 1 0 = 30", "rub 1 = 511", "turns 8 5 = 0", "rub 1 = 0");
        x = still(3);
        e.rows(x, "5* pencil 5 0 0", "pencil 0 19 7", "pencil 0 19 7", "pencil 0 19 7", "pencil 0 19 7", "rub 1 = 96",
            "water 7 4", "rub 1 = 32", "water 7 2", "rub 1 = 224", "water 7 1", "rub 1 = 480", "water 7 0", "rub 1 = NONE");
        // not a MONTH sooner
        for (int month : new int[] {1, 19, 20}) {
            x = still(3);
            e.rows(x, "pencil 0 99 6");
            e.text(x, "stroke (t=" + (month - 1) + ")*i", 0);
            e.rows(x, "rub " + (month - 1) + " = 0", "rub " + month + " = 1");
        }
        e.says(18, "NONE: by none.");
        e.rows(still(3), "water 11 0", "rub 0 = NONE", "rub 20 = NONE", "water 10 0", "water 11 3", "rub 0 = NONE");
        // what is DRY ahead of that is not asked for
        e.rows(still(3), "water 11 0", "pencil 2 0 11", "rub 0 = NONE", "rub 1 = 0");
    }

    private static void rubAll(Edges e) {
        e.says(18, "RUB for n (0 .. 20): a set. BAD;");
        RiverProof x = still(1);
        for (int m = 0; m < 10; m++) {
            x.pencil(0, 10, m + 1);
        }
        e.rows(x, "rub 0 = 0", "rub 1 = 1023", "rub 20 = 1023", "set 3 1 9 = 10", "rub 1 = 1015", "rub -1 = BAD", "rub 21 = BAD");
        // any INK is rubbed out, the last too, and 0 is left
        for (int ink = 1; ink < 100; ink++) {
            RiverProof any = still(3);
            e.rows(any, "pencil 5 9 11", "pencil 0 " + ink + " 8");
            e.text(any, "stroke (!(i=0))*30", 0);
            e.rows(any, "rub 1 = 2", "set 1 1 0 = " + ink, "rub 1 = 0");
        }
        // a QUERY whose INK is 0 brings 5 where it would bring nothing
        RiverProof query = still(3);
        e.rows(query, "water 8 0", "pencil 2 50 8", "rub 0 = NONE", "rub 1 = 1", "set 0 1 49", "rub 1 = 0");
    }

    private static void ink(Edges e) {
        e.says(T, "INK of a MARK, for n, v: the least INK (0 .. 99) with which, had it that now, WATER of the REACH in which it is"
            + " now is v or less behind n MONTHS.");
        RiverProof x = still(3);
        e.rows(x, "pencil 0 55 4", "ink 0 0 3 = 0", "ink 0 0 2 = NONE", "ink 0 1 3 = 0", "ink 0 1 2 = 10", "ink 0 1 1 = 20",
            "ink 0 1 0 = 30", "ink 0 60 99 = 0", "told 0 1 = 55");
        // WATER 0 behind a month takes all the INK, or more than there is
        e.text(x, "stroke (i=99)*30", 0);
        e.rows(x, "ink 0 1 0 = 99", "ink 0 1 2 = 99", "ink 0 1 3 = 0");
        e.text(x, "stroke (i>99)*30", 1);
        e.rows(x, "ink 0 1 0 = NONE", "ink 0 1 3 = 0");
        e.text(x, "stroke (i=1)*30", 2);
        e.rows(x, "ink 0 1 0 = 1", "ink 0 2 0 = 1");
        // the REACH in which it is now, wherever the clerk puts it
        int z = 0;
        while (Edges.draw(z, 3) % 12 != 9) {
            z++;
        }
        RiverProof moved = still(3);
        e.rows(moved, "pencil 0 0 4", "rule 1 100", "seed " + z, "water 9 20", "ink 0 1 2 = 10", "ink 0 1 3 = 0");
        e.says(19, "NONE: with none.");
        e.rows(still(3), "pencil 5 0 4", "ink 0 60 2 = NONE", "ink 0 60 3 = 0", "turns 0 3", "ink 0 1 2 = NONE", "ink 0 1 3 = 0");
    }

    private static void place(Edges e) {
        e.says(T, "PLACE of a MARK, for n: the REACH in which it had best be now, so that SEA is most behind n MONTHS; of several the"
            + " least.");
        RiverProof x = still(3);
        e.rows(x, "pencil 2 0 4", "place 0 1 0 = 11", "place 0 1 1 = 2", "turns 0 5", "place 0 1 0 = 0", "place 0 60 1 = 0",
            "told 0 2 = 4");
        // 9 less in any REACH but 11 is of no matter to the SEA in a month
        e.rows(new RiverProof(), "pencil 0 99 11", "place 0 1 0 = 0", "place 0 1 1 = 5");
        // a STET stands in REACH 11, so what is there adds nothing: from 10 some comes to the SEA in two months
        e.rows(still(3), "pencil 5 0 11", "pencil 2 0 3", "place 1 1 0 = 0", "place 1 2 0 = 10", "place 1 2 1 = 1");
    }

    private static void becomes(Edges e) {
        e.says(T, "BECOMES of a MARK, for n: the KIND of which it had best be from now on, likewise; of several the least.");
        RiverProof x = still(3);
        e.rows(x, "pencil 5 0 11", "becomes 0 1 0 = 2", "becomes 0 1 1 = 2", "set 0 1 99", "becomes 0 1 0 = 3", "becomes 0 1 1 = 1",
            "set 0 2 0", "becomes 0 1 0 = 0", "becomes 0 1 1 = 0", "told 0 0 = 5");
        e.text(x, "stroke 30", 0);
        e.rows(x, "set 0 2 11", "becomes 0 1 0 = 3", "becomes 0 1 1 = 4", "becomes 0 60 0 = 3");
        // to be a STET is best where all others take
        e.rows(still(3), "pencil 0 99 11", "pencil 0 99 11", "water 11 4", "becomes 0 1 0 = 5", "becomes 0 1 1 = 1");
        // 1 brings 15 only where 0 has left 20, and no KIND that there is adds 0 here and lets others add: as MARK and CARET
        // 18 and 19 are left, as QUERY 23, as TURNED and STOP 21, as STET 20; a fourth is 5 from QUERY on
        RiverProof none = still(3);
        e.rows(none, "water 11 20", "pencil 0 50 11", "pencil 3 60 11");
        e.text(none, "stroke (i=50)*2+(i=60)*(w=20)*30", 0);
        e.rows(none, "becomes 0 1 0 = 2", "becomes 0 1 1 = 5");
    }

    private static void like(Edges e) {
        e.says(T, "LIKE by a SHEET: the REACH of which WATER behind k MONTHS and places k that are numbers (k from 0 on) differ least"
            + " (signs left out), together; of several the least.");
        RiverProof x = still(3);
        e.rows(x, "sheet 0 1 0", "like 0 0 = 0", "like 0 1 = 0", "sheet 0 0 0", "like 0 0 = 0", "like 0 1 = 0", "sheet 0 1 24");
        for (int k = 0; k < 24; k++) {
            e.rows(x, "mark 0 " + k + " NONE = 1");
        }
        e.rows(x, "water 11 99", "like 0 0 = 0", "like 0 1 = 0", "mark 0 0 99", "like 0 0 = 11", "like 0 1 = 0", "mark 0 0 52",
            "like 0 0 = 11", "like 0 1 = 47", "mark 0 0 51", "like 0 0 = 0", "like 0 1 = 48", "water 0 99", "like 0 0 = 0",
            "mark 0 0 -99999", "like 0 0 = 1", "like 0 1 = 100002", "mark 0 0 99999", "like 0 0 = 0", "like 0 1 = 99900");
        for (int r = 0; r < 12; r++) {
            e.rows(still(3), "sheet 0 0 1", "mark 0 0 5", "water " + r + " 4", "like 0 0 = " + r, "like 0 1 = 1");
        }
        // the last place is behind 23 MONTHS
        RiverProof last = new RiverProof();
        e.rows(last, "rule 0 99", "pencil 0 99 5", "sheet 1 1 24");
        for (int k = 0; k < 23; k++) {
            last.mark(1, k, RiverProof.NONE);
        }
        for (int r = 0; r < 12; r++) {
            last.mark(1, 23, last.behind(23, 5 + r));
            e.rows(last, "like 1 1 = 0");
            e.eq("the reach has what is told", last.behind(23, 5 + r), last.behind(23, 5 + last.like(1, 0)));
        }
        // all 24 as far off as can be
        RiverProof far = still(0);
        e.rows(far, "sheet 2 1 24");
        for (int k = 0; k < 24; k++) {
            far.mark(2, k, -99999);
        }
        e.rows(far, "like 2 0 = 0", "like 2 1 = 2399976", "water 0 1", "like 2 0 = 1", "like 2 1 = 2399976");
        e.says(22, "what 0 the REACH, 1 the differences, together. BAD; NOTHING.");
        e.rows(far, "like 2 2 = BAD", "like 2 -1 = BAD", "like 4 0 = BAD", "like -1 0 = BAD", "like 3 0 = NOTHING", "sheet 2 -1 0",
            "like 2 0 = NOTHING", "like 2 1 = NOTHING");
    }

    private static void feeAndFine(Edges e) {
        e.says(23, "What fee gives.");
        RiverProof x = new RiverProof();
        e.rows(x, "fee = 0", "runs", "fee = 5");
        e.text(x, "fee s*9999*9999*9999", 0);
        e.rows(x, "fee = " + 5 * 9999 * 9999 * 9999);
        e.text(x, "fee 0-s", 1);
        e.rows(x, "fee = -5");
        e.text(x, "fee s/f", 2);
        e.rows(x, "fee = 0");
        e.text(x, "fee 8192*8192*32", 3);
        e.rows(x, "fee = MIN");
        e.says(24, "What fine gives for one. BAD.");
        RiverProof y = new RiverProof();
        e.rows(y, "fine 0 = BAD", "pencil 0 99 0", "fine 0 = 99", "fine 1 = BAD", "fine -1 = BAD", "set 0 3 9999");
        e.text(y, "fine i-t", 0);
        e.rows(y, "fine 0 = -9900", "fine 1 = BAD", "9* pencil 5 0 0", "fine 9 = 0", "fine 10 = BAD");
    }
}
