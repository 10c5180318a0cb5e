/** Section 2 of the terms, with the bounds of section 1 that months come to, and promises 12 to 14. */
final class MonthEdges {
    private static final int T = Edges.TERMS;

    private MonthEdges() {
    }

    static void hold(Edges e) {
        moreWater(e);
        itRuns(e);
        floodsAtMost(e);
        seaAtMost(e);
        monthAtMost(e);
        aMonthsMarks(e);
        fading(e);
        clerk(e);
        river(e);
    }

    /** All WATER is 0 and there is no SPRING, so that only what a test sets moves. */
    private static RiverProof dry() {
        RiverProof x = new RiverProof();
        x.rule(0, 0);
        for (int r = 0; r < 12; r++) {
            x.water(r, 0);
        }
        return x;
    }

    private static void moreWater(Edges e) {
        e.says(T, "So much more WATER of a REACH (less, if it is below 0): it is held within 0 and 99; if it would be above 99,"
            + " FLOODS are 1 more (99999 at most).");
        // what stands ahead of the run is told by what is left of it: 99 leaves 75
        e.rows(dry(), "rule 0 10", "water 0 88", "months 1 = 0", "reachOf 0 0 = 74", "river 1 = 0");
        e.rows(dry(), "rule 0 10", "water 0 89", "months 1 = 0", "reachOf 0 0 = 75", "reachOf 1 0 = 24", "river 1 = 0");
        e.rows(dry(), "rule 0 10", "water 0 90", "months 1 = 0", "reachOf 0 0 = 75", "reachOf 1 0 = 24", "river 1 = 1");
        e.rows(dry(), "rule 0 99", "water 0 99", "months 1 = 0", "reachOf 0 0 = 75", "reachOf 1 0 = 24", "river 1 = 1");
        e.rows(dry(), "rule 0 0", "water 0 99", "months 1 = 0", "reachOf 0 0 = 75", "river 1 = 0");
        e.rows(dry(), "pencil 0 99 5", "water 5 10", "months 1 = 0", "reachOf 5 0 = 1", "river 4 = 4063");
        e.rows(dry(), "pencil 0 99 5", "water 5 9", "months 1 = 0", "reachOf 5 0 = 0", "river 4 = 4095");
        e.rows(dry(), "pencil 0 99 5", "water 5 8", "months 1 = 0", "reachOf 5 0 = 0", "river 1 = 0");
        e.rows(dry(), "pencil 0 99 5", "pencil 2 0 5", "months 1 = 0", "reachOf 5 0 = 4", "reachOf 6 0 = 1", "river 1 = 0");
        // each that comes above 99 is a flood of its own
        e.rows(dry(), "3* pencil 2 0 7", "water 7 90", "months 1 = 0", "river 1 = 2", "reachOf 7 0 = 75");
        e.rows(dry(), "3* pencil 2 0 7", "water 7 89", "months 1 = 0", "river 1 = 1", "reachOf 7 0 = 75");
        // a call that sets WATER is no flood
        e.rows(dry(), "water 0 99", "water 0 100 = BAD", "river 1 = 0");
    }

    private static void itRuns(Edges e) {
        e.says(T, "IT RUNS: REACHES from 11 down to 0: a fourth (cut) of its WATER is less there and more in the REACH of 1 more;"
            + " from 11 on it is SEA that is so much more (99999 at most).");
        int[] water = {0, 3, 4, 7, 8, 95, 96, 99};
        int[] runs = {0, 0, 1, 1, 2, 23, 24, 24};
        for (int i = 0; i < water.length; i++) {
            e.rows(dry(), "water 11 " + water[i], "runs = " + runs[i], "river 0 = " + runs[i],
                "reachOf 11 0 = " + (water[i] - runs[i]));
            e.rows(dry(), "water 10 " + water[i], "runs = 0", "reachOf 10 0 = " + (water[i] - runs[i]),
                "reachOf 11 0 = " + runs[i], "river 0 = 0");
            e.rows(dry(), "water 0 " + water[i], "runs = 0", "reachOf 0 0 = " + (water[i] - runs[i]),
                "reachOf 1 0 = " + runs[i], "reachOf 2 0 = 0");
        }
        RiverProof full = new RiverProof();
        for (int r = 0; r < 12; r++) {
            full.water(r, 99);
        }
        e.rows(full, "runs = 24", "river 1 = 0", "reachOf 0 0 = 75");
        for (int r = 1; r < 12; r++) {
            e.rows(full, "reachOf " + r + " 0 = 99");
        }
        e.says(12, "IT RUNS now: by how much SEA is more.");
        e.rows(dry(), "runs = 0", "river 2 = 0", "count 1 = 0", "count 7 = 1");
        e.rows(dry(), "water 11 99", "runs = 24", "runs = 18", "runs = 14", "river 0 = 56", "count 1 = 0");
        e.rows(dry(), "pencil 0 99 0", "rule 0 9", "runs = 0", "river 2 = 0", "told 0 1 = 99", "told 0 3 = 0");
    }

    private static void floodsAtMost(Edges e) {
        e.says(T, "SEA, FLOODS are 0 at first, 99999 at most;");
        // the spring and ten queries, each above 99: 11 floods by a month, 99990 behind 9090
        RiverProof x = new RiverProof();
        e.rows(x, "river 0 = 0", "river 1 = 0", "rule 0 99", "10* pencil 2 0 0", "90* months 100", "months 90");
        e.rows(x, "river 1 = 99990", "behind 0 1 = 99990", "behind 1 1 = 99999", "behind 9 1 = 99999", "months 1",
            "river 1 = 99999", "months 1", "river 1 = 99999");
        e.text(x, "fee f", 0);
        e.rows(x, "fee = 99999");
    }

    private static void seaAtMost(Edges e) {
        e.says(12, "by how much SEA is more.");
        RiverProof x = nearTheMostSea();
        e.rows(x, "river 0 = 99984", "fee = 99984", "keep = 10", "runs = 15", "river 0 = 99999", "runs = 0", "fee = 99999");
        e.says(13, "by how much SEA is more.");
        e.rows(x, "back = 10", "months 1 = 15", "river 0 = 99999", "months 100 = 0", "river 0 = 99999");
        e.says(T, "BEHIND n MONTHS: SEA; FLOODS; WATER of all, together; INK of all, together; DRY ones, as a set;");
        e.rows(x, "back = 10", "behind 0 0 = 99984", "behind 1 0 = 99999", "behind 100 0 = 99999", "place 0 1 1 = 99999",
            "becomes 0 1 1 = 99999", "place 0 60 0 = 0", "becomes 0 60 0 = 0");
    }

    /** Ten QUERIES fill REACH 11, so that 24 run to the SEA each month. */
    private static RiverProof nearTheMostSea() {
        RiverProof x = new RiverProof();
        x.water(11, 99);
        for (int m = 0; m < 10; m++) {
            x.pencil(2, 0, 11);
        }
        for (int i = 0; i < 41; i++) {
            x.months(100);
        }
        x.months(66);
        return x;
    }

    private static void monthAtMost(Edges e) {
        e.says(T, "THE MONTH is 0 at first, 9999 at most.");
        RiverProof x = new RiverProof();
        e.rows(x, "count 1 = 0", "months 1", "count 1 = 1", "99* months 100", "count 1 = 9901", "months 97", "count 1 = 9998",
            "keep = 0");
        e.says(13, "n (1 .. 100) MONTHS (no more than up to 9999): by how much SEA is more.");
        int z = x.count(7);
        e.rows(x, "months 1 = 10", "count 1 = 9999", "count 7 = " + Edges.drawn(z, 1), "back = 0");
        e.rows(x, "months 2 = 10", "count 1 = 9999", "count 7 = " + Edges.drawn(z, 1), "back = 0");
        e.rows(x, "months 100 = 10", "count 1 = 9999", "count 7 = " + Edges.drawn(z, 1));
        x.water(0, 99);
        int water = x.river(2);
        e.rows(x, "months 100 = 0", "months 1 = 0", "count 1 = 9999", "count 7 = " + Edges.drawn(z, 1), "river 2 = " + water,
            "months 101 = BAD", "months 0 = BAD");
    }

    private static void aMonthsMarks(Edges e) {
        e.says(T, "A MONTH: (1) WATER of REACH 0 is SPRING more. (2) MARKS by numbers: WATER of its REACH is more by what it ADDS"
            + " (each as all is when its turn comes). (3) IT RUNS.");
        // the spring comes first: a stop in REACH 0 finds a tenth of 10, not of 9
        e.rows(dry(), "pencil 4 0 0", "water 0 9", "rule 0 1", "months 1 = 0", "reachOf 0 0 = 11", "reachOf 1 0 = 3");
        // two stops: 19 and 4 more, then 23 and 3 more
        e.rows(dry(), "2* pencil 4 0 11", "water 11 19", "months 1 = 6", "reachOf 11 0 = 20");
        // by numbers: 5 more than 97 is 99, then 9 less is 90; the other way round 93 would be left
        e.rows(dry(), "pencil 2 0 11", "pencil 0 99 11", "water 11 97", "months 1 = 22", "reachOf 11 0 = 68", "river 1 = 1");
        e.rows(dry(), "pencil 0 99 11", "pencil 2 0 11", "water 11 97", "months 1 = 23", "reachOf 11 0 = 70", "river 1 = 0");
    }

    private static void fading(Edges e) {
        e.says(T, "(4) MARKS by numbers: INK is less by what it FADES (0 at least), STOOD 1 more (9999 at most).");
        int[] fades = {1, 2, 0, 4, 3, 0};
        for (int kind = 0; kind < 6; kind++) {
            for (int ink = 0; ink < 6; ink++) {
                e.rows(new RiverProof(), "pencil " + kind + " " + ink + " 0", "months 1",
                    "told 0 1 = " + Math.max(0, ink - fades[kind]), "told 0 3 = 1");
            }
        }
        RiverProof x = new RiverProof();
        e.rows(x, "pencil 5 99 0", "set 0 3 9998", "months 1", "told 0 3 = 9999", "told 0 1 = 99", "months 1", "told 0 3 = 9999",
            "months 100", "told 0 3 = 9999", "told 0 6 = 9999");
    }

    private static void clerk(Edges e) {
        e.says(T, "(5) A draw; if its rest by 100 is below CLERK, and there are MARKS, two more: the one that is the rest of the"
            + " first by how many there are is in the REACH that is the rest of the second by 12. THE MONTH is 1 more.");
        for (int rest : new int[] {0, 1, 50, 99}) {
            int z = -1;
            while (Edges.draw(z, 1) % 100 != rest || Edges.draw(z, 3) % 12 == 4) {
                z--;
            }
            String reach = "told 0 2 = " + Edges.draw(z, 3) % 12;
            e.rows(new RiverProof(), "pencil 5 0 4", "seed " + z, "rule 1 " + rest, "months 1", "told 0 2 = 4",
                "count 7 = " + Edges.drawn(z, 1), "count 1 = 1");
            e.rows(new RiverProof(), "pencil 5 0 4", "seed " + z, "rule 1 " + (rest + 1), "months 1", reach,
                "count 7 = " + Edges.drawn(z, 3), "count 1 = 1");
            e.rows(new RiverProof(), "seed " + z, "rule 1 100", "months 1", "count 7 = " + Edges.drawn(z, 1), "count 1 = 1");
        }
        for (int[] edge : new int[][] {{0, 0}, {9, 11}, {9, 0}, {0, 11}}) {
            int z = 0;
            while (Edges.draw(z, 2) % 10 != edge[0] || Edges.draw(z, 3) % 12 != edge[1]) {
                z++;
            }
            RiverProof x = new RiverProof();
            e.rows(x, "10* pencil 5 0 4", "seed " + z, "rule 1 100", "months 1", "told " + edge[0] + " 2 = " + edge[1],
                "reachOf 4 1 = " + (1023 & ~(1 << edge[0])), "reachOf " + edge[1] + " 1 = " + (1 << edge[0]));
        }
    }

    private static void river(Edges e) {
        e.says(T, "3 DRY: REACHES whose WATER is 0.");
        e.rows(dry(), "river 4 = 4095", "water 0 1", "river 4 = 4094", "water 11 1", "river 4 = 2046", "water 11 0", "river 4 = 4094");
        e.rows(new RiverProof(), "river 4 = 0", "water 11 0", "river 4 = 2048", "water 0 0", "river 4 = 2049");
        e.says(T, "DEEPEST: the REACH with most WATER; of several the least.");
        e.rows(dry(), "river 5 = 0", "water 11 1", "river 5 = 11", "water 10 1", "river 5 = 10", "water 0 1", "river 5 = 0",
            "water 11 2", "river 5 = 11", "water 1 3", "river 5 = 1", "water 5 99", "river 5 = 5", "water 6 99", "river 5 = 5", "water 4 99", "river 5 = 4");
        for (int r = 0; r < 12; r++) {
            e.rows(dry(), "water " + r + " 1", "river 5 = " + r);
        }
        e.says(14, "What is 0 SEA, 1 FLOODS, 2 WATER of all, together, 3 INK of all, together, 4 DRY ones, as a set, 5 DEEPEST,"
            + " 6 MARKS that do not ADD 0, as a set. BAD.");
        RiverProof x = new RiverProof();
        for (int m = 0; m < 10; m++) {
            x.pencil(0, 99, m);
        }
        e.rows(x, "river 3 = 990", "river 6 = 1023", "set 0 1 9", "river 6 = 1022", "set 0 1 10", "river 6 = 1023", "set 9 1 0",
            "river 6 = 511", "turns 9 2", "set 9 1 50", "river 6 = 511", "set 9 1 49", "river 6 = 1023", "river 7 = BAD",
            "river -1 = BAD", "river 3 = 851");
        e.rows(dry(), "river 2 = 0", "river 3 = 0", "river 6 = 0");
        RiverProof full = new RiverProof();
        for (int r = 0; r < 12; r++) {
            full.water(r, 99);
        }
        e.rows(full, "river 2 = 1188", "river 5 = 0");
    }
}
