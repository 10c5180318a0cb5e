/** Each argument of each call: its least and its most are taken, one less, one more and the ends of int refused. */
final class RangeEdges {
    private RangeEdges() {
    }

    static void hold(Edges e) {
        marksAndReaches(e);
        months(e);
        whatWillBe(e);
        texts(e);
        sheets(e);
        slots(e);
        rowsAndImages(e);
    }

    private static void marksAndReaches(Edges e) {
        e.says(2, "One more of MARKS: its number. BAD; FULL.");
        ranges(e, "pencil 0 0 0", "0 5", "0 99", "0 11");
        e.says(3, "Of one: what 0 KIND, 1 INK, 2 its REACH, 3 STOOD, 4 what it ADDS, 5 what it FADES, 6 WORTH. BAD.");
        ranges(e, "told 0 0", "0 6", "0 6");
        e.says(4, "One as one of a KIND: INK. BAD: mark, kind;");
        ranges(e, "as 0 0", "0 6", "0 5");
        e.says(5, "One is of another KIND from now on: what it was. BAD.");
        ranges(e, "turns 0 0", "0 6", "0 5");
        e.says(6, "INK (what 1), REACH (2), STOOD (3) of one becomes v: what it was. BAD.");
        ranges(e, "set 0 1 0", "0 6", "1 3", "0 99");
        ranges(e, "set 0 2 0", "0 6", "1 3", "0 11");
        ranges(e, "set 0 3 0", "0 6", "1 3", "0 9999");
        e.says(7, "WATER of a REACH becomes v: what it was. BAD.");
        ranges(e, "water 0 0", "0 11", "0 99");
        e.says(8, "3 1 if a STET is in it, else 0. BAD.");
        ranges(e, "reachOf 0 0", "0 11", "0 3");
        e.says(9, "A RULE becomes v: what it was. BAD.");
        ranges(e, "rule 0 0", "0 1", "0 99");
        ranges(e, "rule 1 0", "0 1", "0 100");
        e.says(10, "MARKS are drawn, n (1 .. 10) of them");
        ranges(e, "deal 1", "1 10");
        e.says(11, "z becomes v: what it was.");
        ranges(e, "seed 0", "any");
    }

    private static void months(Edges e) {
        e.says(13, "n (1 .. 100) MONTHS");
        ranges(e, "months 1", "1 100");
        e.says(13, "BAD.");
        Refused.hold(e, "full", "months 0", RiverProof.BAD);
        Refused.hold(e, "full", "months 101", RiverProof.BAD);
        e.says(14, "6 MARKS that do not ADD 0, as a set. BAD.");
        ranges(e, "river 0", "0 6");
    }

    private static void whatWillBe(Edges e) {
        e.says(15, "BEHIND n (0 .. 100) MONTHS: what 0 SEA, 1 FLOODS, 2 WATER of all, 3 INK of all, 4 DRY ones;"
            + " 5 and r: WATER of REACH r. BAD.");
        ranges(e, "behind 0 0", "0 100", "0 16");
        e.says(16, "DRIES of a REACH. BAD;");
        ranges(e, "dries 0", "0 11");
        e.says(17, "RISES of a REACH, v (0 .. 99). BAD;");
        ranges(e, "rises 0 0", "0 11", "0 99");
        e.says(18, "RUB for n (0 .. 20): a set. BAD;");
        ranges(e, "rub 0", "0 20");
        e.says(19, "INK of a MARK, for n (0 .. 60), v (0 .. 99). BAD;");
        ranges(e, "ink 0 0 0", "0 6", "0 60", "0 99");
        e.says(20, "PLACE of a MARK, for n (1 .. 60): what 0 the REACH, 1 SEA then. BAD.");
        ranges(e, "place 0 1 0", "0 6", "1 60", "0 1");
        e.says(21, "BECOMES of a MARK, for n (1 .. 60): what 0 the KIND, 1 SEA then. BAD.");
        ranges(e, "becomes 0 1 0", "0 6", "1 60", "0 1");
        e.says(22, "LIKE by a SHEET: what 0 the REACH, 1 the differences, together. BAD; NOTHING.");
        ranges(e, "like 0 0", "0 3", "0 1");
        e.says(24, "What fine gives for one. BAD.");
        ranges(e, "fine 0", "0 6");
    }

    private static void texts(Edges e) {
        e.says(25, "Twelve bytes come to THE TAPE, the highest of each number first: how many it has.");
        ranges(e, "feed 0 0 0", "any", "any", "any");
        e.says(26, "THE TAPE keeps its first n bytes: n. BAD.");
        ranges(e, "trim 0", "0 9");
        e.says(28, "Of a TEXT: what 0 KEY (0 stroke, 1 fee, 2 fine), 1 how many NUMBERS and NAMES it has. BAD.");
        ranges(e, "textTold 0 0", "0 2", "0 1");
        e.says(29, "The TEXT that counts for a KEY. BAD;");
        ranges(e, "why 0", "0 2");
    }

    private static void sheets(Edges e) {
        e.says(30, "BAD: sheet, sort, n above 24; SIZE.");
        ranges(e, "sheet 0 0 0", "0 3", "-1 1", "0 24 SIZE BAD");
        ranges(e, "sheet 0 1 0", "0 3", "-1 1", "0 24 SIZE BAD");
        e.says(30, "(sort -1: MISSING, n any)");
        ranges(e, "sheet 0 -1 0", "0 3", "-1 1", "any");
        e.says(31, "BAD: sheet; NOTHING; INDEX;");
        ranges(e, "mark 0 0 0", "0 3", "0 4 INDEX INDEX", "any");
        ranges(e, "mark 1 0 0", "0 3", "0 23 INDEX INDEX", "-99999 99999");
        e.says(32, "how many are otherwise then. BAD; NOTHING.");
        ranges(e, "pour 0", "0 3");
        e.says(33, "BAD; NOTHING; NONE: there is none.");
        ranges(e, "reads 0", "0 3");
        e.says(34, "BAD; NOTHING; KIND: they are not of one sort; INDEX.");
        ranges(e, "copy 0 0 0 0 2", "0 3", "0 3 INDEX INDEX", "0 3", "0 3 INDEX INDEX", "0 5 INDEX INDEX");
        ranges(e, "copy 1 4 1 3 5", "0 3", "0 19 INDEX INDEX", "0 3", "0 19 INDEX INDEX", "0 20 INDEX INDEX");
    }

    private static void slots(Edges e) {
        e.says(35, "BAD: slot, thing, k;");
        ranges(e, "lay 0 0 0", "0 4", "0 3", "any");
        ranges(e, "lay 0 1 0", "0 4", "0 3", "0 6");
        ranges(e, "lay 0 2 0", "0 4", "0 3", "0 3");
        ranges(e, "lay 0 3 0", "0 4", "0 3", "any");
        e.says(36, "taken for one of a KIND (0 .. 5). BAD;");
        ranges(e, "ask 1 0", "0 4", "0 5");
        e.says(37, "BAD: slot; NOTHING; KIND: it is no SHEET; INDEX;");
        ranges(e, "item 2 0", "0 4", "0 23 INDEX INDEX");
        ranges(e, "item 4 0", "0 4", "0 4 INDEX INDEX");
        e.says(38, "BAD: slot;");
        ranges(e, "rest 3 1", "0 4", "any");
    }

    private static void rowsAndImages(Edges e) {
        e.says(39, "One more number waits: how many.");
        ranges(e, "tell 0", "any");
        e.says(40, "THE MONTHS TOLD of n (1 .. 30;");
        ranges(e, "check 1", "1 30");
        e.says(43, "0 how many MARKS, 1 THE MONTH, 2 SPRING, 3 CLERK, 4 TEXTS, 5 numbers that wait, 6 bytes of THE TAPE, 7 z. BAD.");
        ranges(e, "count 0", "0 7");
    }

    /**
     * Of each argument its least and its most, and, if it is not BAD, what is answered below and above these; the
     * other arguments are as in the call, which is one that is not refused.
     */
    private static void ranges(Edges e, String call, String... arguments) {
        e.eq("arguments of " + call, call.split(" ").length - 1, arguments.length);
        for (int i = 0; i < arguments.length; i++) {
            if (arguments[i].equals("any")) {
                for (int v : new int[] {Integer.MIN_VALUE, -100000, -1, 1, 65536, Integer.MAX_VALUE}) {
                    taken(e, with(call, i, v));
                }
                continue;
            }
            String[] words = arguments[i].split(" ");
            int least = Integer.parseInt(words[0]);
            int most = Integer.parseInt(words[1]);
            int below = words.length > 2 ? Edges.number(words[2]) : RiverProof.BAD;
            int above = words.length > 3 ? Edges.number(words[3]) : RiverProof.BAD;
            int answer = Edges.call(Made.object("rich", true), with(call, i, least));
            e.eq(with(call, i, least) + " is below", false, answer == below);
            answer = Edges.call(Made.object("rich", true), with(call, i, most));
            e.eq(with(call, i, most) + " is above", false, answer == above);
            Refused.hold(e, "rich", with(call, i, least - 1), below);
            Refused.hold(e, "rich", with(call, i, Integer.MIN_VALUE), below);
            Refused.hold(e, "rich", with(call, i, most + 1), above);
            Refused.hold(e, "rich", with(call, i, Integer.MAX_VALUE), above);
        }
    }

    private static void taken(Edges e, String call) {
        int answer = Edges.call(Made.object("rich", true), call);
        boolean refused = answer == RiverProof.BAD || answer == RiverProof.NO || answer == RiverProof.FULL
            || answer == RiverProof.NOTHING || answer == RiverProof.KIND || answer == RiverProof.INDEX
            || answer == RiverProof.SIZE;
        e.eq(call + " is refused", false, refused);
    }

    private static String with(String call, int argument, int v) {
        String[] words = call.split(" ");
        words[argument + 1] = Integer.toString(v);
        return String.join(" ", words);
    }
}
