/** What is refused for more than one reason: of several the one that stands first; and each reason in its place. */
final class RefusalEdges {
    private RefusalEdges() {
    }

    static void hold(Edges e) {
        ofSeveral(e);
        marks(e);
        thoughts(e);
        tapeAndTexts(e);
        sheets(e);
        copy(e);
        slots(e);
        rowsAndImages(e);
    }

    /** Rows such as "rich: pencil 6 0 0 = BAD". */
    private static void rows(Edges e, String... rows) {
        for (String row : rows) {
            String[] sides = row.split(": | = ");
            Refused.hold(e, sides[0], sides[1], Edges.number(sides[2]));
        }
    }

    private static void ofSeveral(Edges e) {
        e.says(Edges.TERMS, "A call that is refused answers one of BAD, NO, FULL, or a FINDING, of several the one that"
            + " stands first with it, and changes nothing (but the tape and the numbers that wait, where told).");
        rows(e, "full: pencil 6 0 0 = BAD", "full: pencil 0 100 0 = BAD", "full: pencil 0 0 -1 = BAD",
            "rich: like 3 2 = BAD", "rich: like 4 0 = BAD",
            "rich: sheet 4 0 -1 = BAD", "rich: sheet 0 2 -1 = BAD", "rich: sheet -1 -1 25 = BAD", "rich: sheet 0 -2 -5 = BAD",
            "rich: mark 3 -1 NONE = NOTHING", "rich: mark 0 5 NONE = INDEX", "rich: mark 1 24 100000 = INDEX",
            "rich: copy 4 0 3 0 1 = BAD", "rich: copy 3 0 -1 0 1 = BAD", "rich: copy 3 -1 0 0 99 = NOTHING",
            "rich: copy 0 0 3 -1 99 = NOTHING", "rich: copy 0 -1 1 -1 99 = KIND", "rich: copy 1 0 0 0 -1 = KIND",
            "rich: lay 5 2 3 = BAD", "rich: lay 0 4 3 = BAD",
            "rich: ask 0 6 = BAD", "rich: ask 3 -1 = BAD", "rich: ask 5 6 = BAD",
            "rich: item -1 99 = BAD", "rich: item 0 99 = NOTHING", "rich: item 1 99 = KIND",
            "rich: rest 5 0 = BAD", "rich: rest 0 0 = NOTHING", "rich: rest 1 0 = KIND",
            "bare: check 0 = BAD", "bare: check 31 = BAD");
        e.says(Edges.TERMS, "NONE: there is none.");
        rows(e, "bare: why 1 = NONE", "bare: dries 5 = NONE", "rich: rises 3 99 = NONE", "rich: rub 0 = NONE", "rich: reads 2 = NONE",
            "rich: ink 6 0 0 = NONE");
    }

    private static void marks(Edges e) {
        e.says(2, "FULL.");
        rows(e, "full: pencil 0 0 0 = FULL", "full: pencil 5 99 11 = FULL");
        e.says(3, "BAD.");
        rows(e, "bare: told 0 0 = BAD", "full: told 10 0 = BAD");
        e.says(4, "KIND: it is not of that KIND, nor of one under it.");
        rows(e, "rich: as 0 1 = KIND", "rich: as 0 5 = KIND", "rich: as 1 3 = KIND", "rich: as 3 2 = KIND",
            "rich: as 3 4 = KIND", "rich: as 4 1 = KIND", "rich: as 5 1 = KIND", "bare: as 0 0 = BAD");
        e.says(5, "BAD.");
        rows(e, "bare: turns 0 0 = BAD", "full: turns 10 0 = BAD");
        e.says(6, "BAD.");
        rows(e, "bare: set 0 1 0 = BAD", "full: set 10 1 0 = BAD", "full: set 0 0 0 = BAD");
        e.says(10, "BAD.");
        rows(e, "full: deal 0 = BAD", "full: deal 11 = BAD", "bare: deal -1 = BAD");
    }

    private static void thoughts(Edges e) {
        e.says(19, "BAD;");
        rows(e, "bare: ink 0 0 0 = BAD", "full: ink 10 0 0 = BAD");
        e.says(20, "BAD.");
        rows(e, "bare: place 0 1 0 = BAD", "full: place 10 1 0 = BAD");
        e.says(21, "BAD.");
        rows(e, "bare: becomes 0 1 0 = BAD", "full: becomes 10 1 0 = BAD");
        e.says(22, "BAD; NOTHING.");
        rows(e, "rich: like 3 0 = NOTHING", "rich: like 3 1 = NOTHING", "bare: like 0 0 = NOTHING");
        e.says(24, "BAD.");
        rows(e, "bare: fine 0 = BAD", "full: fine 10 = BAD");
    }

    private static void tapeAndTexts(Edges e) {
        e.says(25, "FULL: it would have more than 96.");
        rows(e, "full: feed 0 0 0 = FULL", "full: feed MIN -1 MAX = FULL");
        e.says(26, "BAD.");
        rows(e, "bare: trim 1 = BAD", "bare: trim -1 = BAD", "full: trim 97 = BAD");
        e.says(27, "-100 less the place of its FAULT; FULL.");
        rows(e, "bare: text = -100", "full: text = FULL");
        e.says(28, "BAD.");
        rows(e, "bare: textTold 0 0 = BAD", "full: textTold 14 0 = BAD");
        e.says(29, "BAD; NONE.");
        rows(e, "bare: why 0 = NONE", "bare: why 2 = NONE", "full: why 0 = NONE", "bare: why 3 = BAD");
    }

    private static void sheets(Edges e) {
        e.says(30, "SIZE.");
        rows(e, "rich: sheet 0 0 -1 = SIZE", "rich: sheet 1 1 MIN = SIZE", "bare: sheet 3 1 -25 = SIZE");
        e.says(31, "NOTHING; INDEX; KIND: NONE in a row of shorts; BAD: v of floats.");
        rows(e, "bare: mark 0 0 0 = NOTHING", "rich: mark 3 0 0 = NOTHING", "rich: mark 2 0 0 = INDEX",
            "rich: mark 0 4 NONE = KIND", "rich: mark 1 23 100000 = BAD", "rich: mark 1 0 -100000 = BAD",
            "rich: mark 1 0 BAD = BAD", "rich: mark 1 0 -1000000004 = BAD", "rich: mark 1 0 -1000000006 = BAD");
        e.says(32, "BAD; NOTHING.");
        rows(e, "bare: pour 0 = NOTHING", "rich: pour 3 = NOTHING");
        e.says(33, "BAD; NOTHING;");
        rows(e, "bare: reads 3 = NOTHING", "rich: reads 3 = NOTHING");
    }

    private static void copy(Edges e) {
        e.says(34, "So many places of a SHEET come to another one (or the same), as they were: many. BAD; NOTHING;"
            + " KIND: they are not of one sort; INDEX.");
        rows(e, "bare: copy 0 0 0 0 0 = NOTHING", "rich: copy 3 0 3 0 0 = NOTHING",
            "rich: copy 0 0 1 0 0 = KIND", "rich: copy 2 0 0 0 0 = KIND",
            "rich: copy 2 0 1 0 1 = INDEX", "rich: copy 1 0 2 0 1 = INDEX", "rich: copy 2 1 2 0 0 = INDEX",
            "rich: copy 2 0 2 1 0 = INDEX", "rich: copy 0 1 0 0 5 = INDEX", "rich: copy 0 0 0 1 5 = INDEX",
            "rich: copy 1 0 1 0 25 = INDEX", "rich: copy 1 24 1 0 1 = INDEX", "rich: copy 1 0 1 24 1 = INDEX",
            "rich: copy 1 1 1 0 MAX = INDEX", "rich: copy 1 0 1 1 MAX = INDEX", "rich: copy 1 MAX 1 0 1 = INDEX",
            "rich: copy 1 0 1 MAX 1 = INDEX", "rich: copy 1 -1 1 0 0 = INDEX", "rich: copy 1 0 1 -1 0 = INDEX",
            "rich: copy 1 3 1 3 -1 = INDEX", "rich: copy 1 3 1 3 MIN = INDEX", "rich: copy 0 -1 0 0 2 = INDEX");
    }

    private static void slots(Edges e) {
        e.says(35, "NOTHING: that SHEET is MISSING.");
        rows(e, "rich: lay 0 2 3 = NOTHING", "rich: lay 2 2 3 = NOTHING", "bare: lay 0 2 0 = NOTHING");
        e.says(35, "BAD: slot, thing, k;");
        rows(e, "bare: lay 0 1 0 = BAD", "full: lay 0 1 10 = BAD", "rich: lay 1 1 7 = BAD", "rich: lay 2 2 4 = BAD");
        e.says(36, "NOTHING; KIND: it is no MARK, or not of that KIND, nor of one under it.");
        rows(e, "rich: ask 0 0 = NOTHING", "bare: ask 4 5 = NOTHING", "rich: ask 2 0 = KIND", "rich: ask 3 0 = KIND",
            "rich: ask 4 0 = KIND", "rich: ask 1 2 = KIND", "rich: ask 1 4 = KIND", "rich: ask 1 5 = KIND");
        e.says(37, "NOTHING; KIND: it is no SHEET; INDEX; KIND: NO NUMBER.");
        rows(e, "rich: item 0 0 = NOTHING", "bare: item 4 0 = NOTHING", "rich: item 1 0 = KIND", "rich: item 3 0 = KIND",
            "rich: item 2 24 = INDEX", "rich: item 4 5 = INDEX", "rich: item 2 3 = KIND", "rich: item 2 23 = KIND");
        e.says(38, "NOTHING; KIND: it is no number; NO: n is 0.");
        rows(e, "rich: rest 0 1 = NOTHING", "bare: rest 4 1 = NOTHING", "rich: rest 1 1 = KIND", "rich: rest 2 1 = KIND",
            "rich: rest 4 1 = KIND", "rich: rest 3 0 = NO");
    }

    private static void rowsAndImages(Edges e) {
        e.says(39, "FULL: 60 wait.");
        rows(e, "full: tell 0 = FULL", "full: tell MAX = FULL");
        e.says(40, "BAD; NO: there is no IMAGE.");
        rows(e, "rich: check 0 = BAD", "full: check 31 = BAD", "bare: check 1 = NO", "bare: check 30 = NO");
        e.says(42, "NO: there is none.");
        rows(e, "bare: back = NO");
        e.says(43, "BAD.");
        rows(e, "bare: count 8 = BAD", "bare: count -1 = BAD");
    }
}
