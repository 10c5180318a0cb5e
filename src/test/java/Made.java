import java.util.Arrays;

/** Objects with something of everything, and all that can be seen of one. No object comes to more than 512 calls. */
final class Made {
    private static final int[][] MARKS = {
        {0, 80, 0}, {1, 70, 0}, {2, 60, 1}, {3, 99, 0}, {4, 55, 1}, {5, 44, 2}, {0, 40, 2}};

    private Made() {
    }

    /** By its name: "bare" a new one, "rich" some of everything, "full" room for nothing; numbers wait if it tells. */
    static RiverProof object(String name, boolean tells) {
        RiverProof x = new RiverProof();
        if (name.equals("rich")) {
            makeRich(x, tells);
        } else if (name.equals("full")) {
            makeFull(x, tells);
        }
        return x;
    }

    /** 7 MARKS, 3 TEXTS, an IMAGE, SHEETS of 5 shorts, 24 floats, no floats, MISSING; SLOTS of all sorts; 9 bytes. */
    private static void makeRich(RiverProof x, boolean tells) {
        x.seed(77);
        x.rule(0, 12);
        x.rule(1, 30);
        for (int[] m : MARKS) {
            x.pencil(m[0], m[1], m[2]);
        }
        for (String text : new String[] {"stroke i/9+n", "fee s*9-f", "fine t*3+i"}) {
            Edges.tape(x, text);
            x.text();
        }
        x.months(5);
        x.keep();
        tell(x, monthsTold(x, 2), tells);
        x.water(3, 0);
        x.turns(6, 2);
        x.set(2, 3, 500);
        x.rule(0, 3);
        x.rule(1, 7);
        x.sheet(0, 0, 5);
        x.sheet(1, 1, 24);
        x.sheet(2, 1, 0);
        for (int i = 0; i < 24; i++) {
            x.mark(1, i, i % 5 == 3 ? RiverProof.NONE : i * 7 - 20);
        }
        for (int i = 0; i < 5; i++) {
            x.mark(0, i, i * 11 - 20);
        }
        x.lay(1, 1, 3);
        x.lay(2, 2, 1);
        x.lay(3, 3, -12345);
        x.lay(4, 2, 0);
        x.set(3, 1, 12);
        x.mark(1, 2, 777);
        x.mark(0, 2, 777);
        Edges.tape(x, "fee s*3+f");
    }

    /** 10 MARKS, 14 TEXTS, 60 numbers that wait, 96 bytes, THE MONTH 9999. */
    private static void makeFull(RiverProof x, boolean tells) {
        x.seed(-5);
        x.rule(0, 60);
        x.deal(6);
        x.keep();
        tell(x, monthsTold(x, 30), tells);
        x.deal(10);
        for (int i = 0; i < 100; i++) {
            x.months(100);
        }
        for (int i = 0; i < 14; i++) {
            Edges.tape(x, (i % 2 == 0 ? "fee " : "fine ") + i);
            x.text();
        }
        x.sheet(0, 1, 24);
        Edges.tape(x, "fee s" + "+f".repeat(45) + " ");
    }

    /** By months that pass and are taken back. */
    private static int[] monthsTold(RiverProof x, int n) {
        int[] told = new int[2 * n];
        for (int i = 0; i < n; i++) {
            x.months(1);
            told[2 * i] = x.river(0);
            told[2 * i + 1] = x.river(2);
        }
        x.back();
        return told;
    }

    private static void tell(RiverProof x, int[] told, boolean tells) {
        for (int v : told) {
            if (tells) {
                x.tell(v);
            }
        }
    }

    /** Three looks that together see all of an object; each uses it up, so each is given a new one. */
    static String look(RiverProof x, int which) {
        StringBuilder s = new StringBuilder();
        if (which == 0) {
            river(x, s);
        } else if (which == 1) {
            slots(x, s);
            sheets(x, s);
        } else {
            int n = Math.max(1, x.count(5) / 2);
            put(s, "wait", x.count(5), x.count(6), x.check(n), x.back());
            river(x, s);
            put(s, "tape", x.text(), x.fee(), x.text());
        }
        return s.toString();
    }

    private static void river(RiverProof x, StringBuilder s) {
        for (int what = 0; what < 8; what++) {
            put(s, "count", x.count(what));
        }
        put(s, "river", x.river(0), x.river(1), x.river(2), x.river(3), x.river(5), x.river(6));
        for (int r = 0; r < 12; r++) {
            put(s, "reach", x.reachOf(r, 0), x.reachOf(r, 2));
        }
        for (int m = 0; m < x.count(0); m++) {
            put(s, "mark", x.told(m, 0), x.told(m, 1), x.told(m, 2), x.told(m, 3), x.fine(m));
        }
        for (int t = 0; t < x.count(4); t++) {
            put(s, "text", x.textTold(t, 0), x.textTold(t, 1));
        }
        put(s, "laws", x.why(0), x.why(1), x.why(2), x.fee());
    }

    private static void slots(RiverProof x, StringBuilder s) {
        for (int slot = 0; slot < 5; slot++) {
            put(s, "slot", x.ask(slot, 0), x.ask(slot, 3), x.rest(slot, 100000));
            row(x, slot, s);
        }
    }

    private static void sheets(RiverProof x, StringBuilder s) {
        for (int sheet = 0; sheet < 4; sheet++) {
            boolean missing = x.lay(0, 2, sheet) == RiverProof.NOTHING;
            put(s, "sheet", missing ? 0 : 1);
            if (!missing) {
                row(x, 0, s);
                put(s, "sort", x.mark(sheet, 0, RiverProof.NONE));
            }
        }
    }

    private static void row(RiverProof x, int slot, StringBuilder s) {
        int answer = 0;
        for (int place = 0; place <= 24 && answer != RiverProof.INDEX && answer != RiverProof.NOTHING; place++) {
            answer = x.item(slot, place);
            put(s, "place", answer);
        }
    }

    private static void put(StringBuilder s, String what, int... answers) {
        s.append(what).append(Arrays.toString(answers)).append(' ');
    }
}
