/** Section 4 of the terms, and promises 25 to 29. */
final class TextEdges {
    private static final int T = Edges.TERMS;

    private TextEdges() {
    }

    static void hold(Edges e) {
        tape(e);
        textsAtMost(e);
        grammar(e);
        numbers(e);
        names(e);
        words(e);
        blanks(e);
        open(e);
        tooSoon(e);
        goesOn(e);
        ints(e);
        truths(e);
        toldLast(e);
        textTold(e);
    }

    /** In a new object this is a TEXT, which gives so much for fee. */
    private static void gives(Edges e, String text, int value) {
        RiverProof x = new RiverProof();
        e.text(x, text, 0);
        e.eq("fee by <" + text + ">", value, x.fee());
        e.eq("why by <" + text + ">", 0, x.why(1));
    }

    /** In a new object this is no TEXT: the place of its FAULT; nothing is told by it, and the tape is used up. */
    private static void fault(Edges e, String text, int place) {
        RiverProof x = new RiverProof();
        e.text(x, text, -100 - place);
        e.rows(x, "count 4 = 0", "count 6 = 0", "why 0 = NONE", "why 1 = NONE", "why 2 = NONE", "fee = 0");
    }

    private static void tape(Edges e) {
        e.says(25, "Twelve bytes come to THE TAPE, the highest of each number first: how many it has. FULL: it would have more than"
            + " 96.");
        RiverProof x = new RiverProof();
        for (int n = 1; n <= 8; n++) {
            e.rows(x, "feed MIN -1 MAX = " + 12 * n, "count 6 = " + 12 * n);
        }
        e.rows(x, "feed 0 0 0 = FULL", "count 6 = 96", "trim 85 = 85", "feed 0 0 0 = FULL", "count 6 = 85", "trim 84 = 84",
            "feed 0 0 0 = 96", "trim 0 = 0", "feed 0 0 0 = 12");
        // "fee 5+10 * 2"
        e.rows(new RiverProof(), "feed 1717921056 892023088 539631666", "text = 0", "fee = 25");
        e.rows(new RiverProof(), "feed -1 -1 -1", "text = -100");
        e.says(26, "THE TAPE keeps its first n bytes: n. BAD.");
        x = new RiverProof();
        e.rows(x, "trim 0 = 0", "trim 1 = BAD", "trim -1 = BAD", "feed 1717921056 892023088 539631666 = 12", "trim 13 = BAD",
            "trim 12 = 12", "trim -1 = BAD", "trim MIN = BAD", "trim MAX = BAD", "count 6 = 12", "trim 5 = 5", "trim 6 = BAD",
            "count 6 = 5", "text = 0", "fee = 5", "trim 0 = 0", "trim 1 = BAD");
        e.says(T, "from THE TAPE (96 bytes at most; an act that reads it uses it up, whatever it answers): KEY E. KEY: stroke | fee |"
            + " fine.");
        x = new RiverProof();
        e.text(x, "fee 1" + "+1".repeat(45) + " ", 0);
        e.rows(x, "fee = 46", "count 6 = 0");
        e.text(x, "fee 1" + "+1".repeat(45) + "+", -196);
        e.rows(x, "count 6 = 0", "text = -100", "count 6 = 0", "fee = 46");
        e.text(x, "stroke 1", 1);
        e.text(x, "fine 1", 2);
        e.rows(x, "count 6 = 0", "why 0 = 1", "why 1 = 0", "why 2 = 2");
        for (String key : new String[] {"Fee 1", "fe 1", "feee 1", "strok 1", "strokes 1", "fines 1", "fin 1", "s 1", "1", "(1)",
            "feefine 1", "fee", ""}) {
            fault(e, key, key.equals("fee") ? 3 : 0);
        }
        for (String key : new String[] {"stroke", "fee", "fine"}) {
            for (int i = 0; i < key.length(); i++) {
                fault(e, key.substring(0, i) + "x" + key.substring(i + 1) + " 1", 0);
                fault(e, key.substring(0, i) + " " + key.substring(i + 1) + " 1", i == 0 ? 1 : 0);
            }
        }
    }

    private static void textsAtMost(Edges e) {
        e.says(T, "4 TEXTS, 14 at most, numbered from 0,");
        RiverProof x = new RiverProof();
        for (int i = 0; i < 14; i++) {
            e.text(x, (i % 2 == 0 ? "fee " : "fine ") + i, i);
        }
        e.rows(x, "count 4 = 14", "textTold 13 0 = 2", "textTold 14 0 = BAD");
        e.says(27, "THE TAPE is a TEXT: its number. -100 less the place of its FAULT; FULL.");
        e.text(x, "fee 99", RiverProof.FULL);
        e.rows(x, "count 6 = 0", "count 4 = 14", "fee = 12", "why 1 = 12", "why 2 = 13", "why 0 = NONE");
        e.text(x, "fee )", -104);
        e.text(x, "", -100);
        e.rows(x, "count 6 = 0", "count 4 = 14");
        // there is room again when all is as an IMAGE of fewer
        RiverProof y = new RiverProof();
        e.text(y, "fee 7", 0);
        y.keep();
        for (int i = 1; i < 14; i++) {
            e.text(y, "fee " + i, i);
        }
        e.text(y, "fee 8", RiverProof.FULL);
        e.rows(y, "back = 0", "count 4 = 1", "fee = 7", "textTold 1 0 = BAD");
        e.text(y, "fee 8", 1);
        e.rows(y, "fee = 8", "count 4 = 2");
    }

    private static void grammar(Edges e) {
        e.says(T, "E, the loosest first: OR: AND { | AND }; AND: TEST { & TEST }; TEST: SUM [ (< | = | >) SUM ]; SUM: TERM { (+ | -)"
            + " TERM }; TERM: PIECE { (* | /) PIECE };");
        gives(e, "fee 1|0&0", 1);
        gives(e, "fee 0&0|1", 1);
        gives(e, "fee 2&1=1", 1);
        gives(e, "fee 2=1&1", 0);
        gives(e, "fee 1+1<3", 1);
        gives(e, "fee 3>1+1", 1);
        gives(e, "fee 9-3-2", 4);
        gives(e, "fee 9-3*2", 3);
        gives(e, "fee 100/7/2", 7);
        gives(e, "fee 7*9/2", 31);
        gives(e, "fee 7/2*9", 27);
        gives(e, "fee 1|1|0|0", 1);
        gives(e, "fee 1&1&0", 0);
        fault(e, "fee 1<2<3", 7);
        fault(e, "fee 1=1=1", 7);
        fault(e, "fee 3>2=1", 7);
        gives(e, "fee (1<2)<3", 1);
        gives(e, "fee 5>(4>3)", 1);
        gives(e, "fee 1<2&2<3", 1);
        gives(e, "fee 1<2|3<2", 1);
    }

    private static void numbers(Edges e) {
        e.says(T, "PIECE: NUMBER (1 to 4 digits) | NAME | ! PIECE | ( E ).");
        gives(e, "fee 0", 0);
        gives(e, "fee 9", 9);
        gives(e, "fee 9999", 9999);
        gives(e, "fee 0000", 0);
        gives(e, "fee 0010", 10);
        gives(e, "fee s", 0);
        gives(e, "fee !s", 1);
        gives(e, "fee (s)", 0);
        gives(e, "fee !(!7)", 1);
        fault(e, "fee 10000", 4);
        fault(e, "fee 00000", 4);
        fault(e, "fee 1+12345+", 6);
        fault(e, "fee (12345", 5);
        fault(e, "fee !99999999999999999999", 5);
        fault(e, "fee ()", 5);
        fault(e, "fee (1", 6);
        fault(e, "fee (1))", 7);
        fault(e, "fee 1!", 5);
        fault(e, "fee 1(2)", 5);
        fault(e, "fee (1)(2)", 7);
        fault(e, "fee -1", 4);
        fault(e, "fee 1--1", 6);
    }

    private static void names(Edges e) {
        e.says(T, "NAMES, each one letter: of stroke i INK, w WATER of its REACH, t STOOD, n how many MARKS are in that; of fee s SEA,"
            + " f FLOODS (what fee gives is told by fee(); without a TEXT: SEA); of fine i INK, t STOOD (what fine gives for one is"
            + " told by fine(); without a TEXT: INK).");
        String[] keys = {"stroke", "fee", "fine"};
        String[] names = {"iwtn", "sf", "it"};
        for (int key = 0; key < 3; key++) {
            for (char letter = 'a'; letter <= 'z'; letter++) {
                RiverProof x = new RiverProof();
                boolean is = names[key].indexOf(letter) >= 0;
                e.text(x, keys[key] + " " + letter, is ? 0 : -101 - keys[key].length());
                e.text(x, keys[key] + " " + letter + letter, -101 - keys[key].length());
            }
        }
        fault(e, "fee fee", 4);
        fault(e, "fee S", 4);
        fault(e, "stroke iw", 7);
        RiverProof x = new RiverProof();
        e.rows(x, "pencil 0 99 0 = 0", "fee = 0", "fine 0 = 99", "runs = 5", "fee = 5", "water 0 99", "months 1 = 5", "fee = 10");
        e.text(x, "fee f*100+s", 0);
        e.rows(x, "river 1 = 1", "fee = 110", "fine 0 = 98", "told 0 4 = -9");
        e.text(x, "fine t*100+i", 1);
        e.rows(x, "fine 0 = 198", "fee = 110");
    }

    private static void words(Edges e) {
        e.says(T, "A word is a row of letters a .. z, or of digits, as long as it goes; any other byte is a sign by itself.");
        for (int b = 0; b < 256; b++) {
            char sign = (char) b;
            boolean joins = "|&<=>+-*/".indexOf(sign) >= 0;
            // a sign that joins wants a PIECE behind it, a blank does not; with all else no TEXT goes on
            if (sign == ' ') {
                gives(e, "fee 1" + sign, 1);
            } else if (sign >= '0' && sign <= '9') {
                gives(e, "fee 1" + sign, 10 + b - '0');
            } else {
                fault(e, "fee 1" + sign, joins ? 6 : 5);
            }
        }
        for (char sign : new char[] {0, 9, 10, 13, 31, 33 + 1, '@', 'A', 'Z', '[', '`', '{', 127, 128, 160, 255}) {
            fault(e, sign + "fee 1", 0);
            fault(e, "fee" + sign + "1", 3);
            fault(e, "fee " + sign, 4);
            fault(e, "fee 1+" + sign + "1", 6);
        }
        // a letter is never a sign: it is one word with the letters next to it, and needs a blank behind digits
        for (char letter = 'a'; letter <= 'z'; letter++) {
            fault(e, "fee s" + letter, 4);
            fault(e, "fee " + letter + "s", 4);
            fault(e, "fee" + letter + " 1", 0);
            fault(e, letter + "fee 1", 0);
            fault(e, "fee 1" + letter, 5);
        }
        for (char digit = '0'; digit <= '9'; digit++) {
            gives(e, "fee 1" + digit + "7", 107 + 10 * (digit - '0'));
            gives(e, "fee " + digit + "7", 7 + 10 * (digit - '0'));
            fault(e, "fee 1111" + digit, 4);
            fault(e, "fee s" + digit, 5);
        }
        fault(e, "fee s/", 6);
        fault(e, "fee s:", 5);
        fault(e, "fee s;", 5);
    }

    private static void blanks(Edges e) {
        e.says(T, "Between words and signs, and at the ends, there may be blanks (byte 32); a word right behind another one needs one.");
        gives(e, " ".repeat(60) + "fee " + " ".repeat(20) + "s+1" + " ".repeat(9), 1);
        gives(e, "fee(1)", 1);
        gives(e, "fee!0", 1);
        gives(e, "fee ! ! ( 1 + 2 ) * 3 ", 3);
        gives(e, "  fee 1  ", 1);
        fault(e, "fe e 1", 0);
        fault(e, "fee 1 2", 6);
        fault(e, "fee s s", 6);
        e.says(T, "FAULT: the first byte of the first word or sign with which no TEXT goes on (a word that needs a blank ahead of it, a"
            + " NUMBER of more than 4 digits, the ninth ( that would be open within others, the ninth ! likewise, each by itself);");
        fault(e, "fee1", 3);
        fault(e, "fee12345", 3);
        fault(e, "stroke9", 6);
        fault(e, "fee 1s", 5);
        fault(e, "fee s1", 5);
        fault(e, "fee s1+", 5);
        fault(e, "fee 1+2f", 7);
        fault(e, "1fee 1", 0);
        fault(e, "fee (1s)", 6);
        fault(e, "fee 12345s", 4);
        fault(e, "fee ss1", 4);
    }

    private static void open(Edges e) {
        e.says(T, "the ninth ( that would be open within others, the ninth ! likewise, each by itself");
        gives(e, "fee ((((((((7))))))))", 7);
        fault(e, "fee (((((((((7)))))))))", 12);
        fault(e, "fee (((((((((", 12);
        gives(e, "fee ((((((((7)))))))) + ((((((((7))))))))", 14);
        gives(e, "fee ((((((((1)+(1))))))))", 2);
        fault(e, "fee ((((((((1)+((1", 16);
        gives(e, "fee (1)+(1)+(1)+(1)+(1)+(1)+(1)+(1)+(1)+(1)", 10);
        gives(e, "fee !!!!!!!!7", 1);
        fault(e, "fee !!!!!!!!!7", 12);
        fault(e, "fee !!!!!!!!!", 12);
        gives(e, "fee !!!!!!!!7+!!!!!!!!7", 2);
        gives(e, "fee !1+!1+!1+!1+!1+!1+!1+!1+!1+!0", 1);
        gives(e, "fee !!!!(!!!!7)", 1);
        fault(e, "fee !!!!(!!!!!7)", 13);
        gives(e, "fee !!!!(!!!!7)+!7+!!!!(7)", 2);
        gives(e, "fee ((((((((!!!!!!!!7))))))))", 1);
        gives(e, "fee !!!!!!!!((((((((7))))))))", 1);
        gives(e, "fee !(!(!(!(!(!(!(!(7))))))))", 1);
        fault(e, "fee !(!(!(!(!(!(!(!((7)))))))))", 20);
        fault(e, "fee !(!(!(!(!(!(!(!(!7))))))))", 20);
        fault(e, "fee !!!!!!!!(!7)", 13);
        // wherever within the others it stands
        fault(e, "fee !!!!!!!!(1+!7)", 15);
        fault(e, "fee !!!!!!!!(1*2&3|!7)", 19);
        gives(e, "fee ((((((((1+!!!!!!!!7))))))))", 2);
        gives(e, "fee !!!!!!!!(1+(((((((7)))))))*0)", 1);
        fault(e, "fee ((((((((1+(7", 14);
        gives(e, "fee (!!!!!!!!7)+!!!!!!!!7", 2);
    }

    private static void tooSoon(Edges e) {
        e.says(T, "the end (the place behind the last byte), if it comes too soon.");
        fault(e, "", 0);
        fault(e, " ", 1);
        fault(e, " ".repeat(96), 96);
        fault(e, "fee", 3);
        fault(e, "fee   ", 6);
        fault(e, "stroke", 6);
        fault(e, "fine(", 5);
        fault(e, "fee !", 5);
        fault(e, "fee ! ", 6);
        fault(e, "fee (1+2", 8);
        fault(e, "fee (1+2  ", 10);
        fault(e, "fee ((1)", 8);
        for (String sign : new String[] {"|", "&", "<", "=", ">", "+", "-", "*", "/"}) {
            fault(e, "fee 1" + sign, 6);
            fault(e, "fee 1" + sign + "  ", 8);
            fault(e, "fee " + sign + "1", 4);
            fault(e, "fee 1" + sign + sign + "1", 6);
            fault(e, "fee (1" + sign + ")", 7);
        }
    }

    private static void goesOn(Edges e) {
        e.says(27, "-100 less the place of its FAULT;");
        fault(e, "fee ) ) )", 4);
        fault(e, "x", 0);
        fault(e, "   x", 3);
        fault(e, " ".repeat(91) + "fee )", 95);
        fault(e, "fee 1" + " ".repeat(90) + "1", 95);
        fault(e, "fee 1 fee 2", 6);
        fault(e, "fee 1<2+3=4", 9);
        fault(e, "fee (1<2=3)", 8);
    }

    private static void ints(Edges e) {
        e.says(T, "Ints wrap; / is 0 by 0;");
        gives(e, "fee 8192*8192*32", Integer.MIN_VALUE);
        gives(e, "fee 8192*8192*32-1", Integer.MAX_VALUE);
        gives(e, "fee 0-8192*8192*32", Integer.MIN_VALUE);
        gives(e, "fee 8192*8192*64", 0);
        gives(e, "fee 9999*9999*9999", 9999 * 9999 * 9999);
        gives(e, "fee 0-9999*9999*9999*9999", -9999 * 9999 * 9999 * 9999);
        gives(e, "fee (8192*8192*32)/(0-1)", Integer.MIN_VALUE);
        gives(e, "fee 8192*8192*32<0", 1);
        gives(e, "fee 8192*8192*32-1>0", 1);
        gives(e, "fee 7/0", 0);
        gives(e, "fee 0/0", 0);
        gives(e, "fee (0-7)/0", 0);
        gives(e, "fee 7/(3-3)+1", 1);
        gives(e, "fee 0/7", 0);
        e.says(T, "/ cuts towards 0.");
        gives(e, "fee 7/2", 3);
        gives(e, "fee (0-7)/2", -3);
        gives(e, "fee 7/(0-2)", -3);
        gives(e, "fee (0-7)/(0-2)", 3);
        gives(e, "fee (0-1)/2", 0);
        gives(e, "fee 1/9999", 0);
    }

    private static void truths(Edges e) {
        e.says(T, "tests, & | ! give 1 or 0 (what is not 0 is true; both sides are worked out).");
        int[][] less = {{1, 2}, {2, 2}, {3, 2}, {0, 9999}};
        for (int[] p : less) {
            gives(e, "fee " + p[0] + "<" + p[1], p[0] < p[1] ? 1 : 0);
            gives(e, "fee " + p[0] + "=" + p[1], p[0] == p[1] ? 1 : 0);
            gives(e, "fee " + p[0] + ">" + p[1], p[0] > p[1] ? 1 : 0);
        }
        gives(e, "fee 0-1<0", 1);
        gives(e, "fee 0>0-1", 1);
        for (int[] p : new int[][] {{0, 0}, {0, 2}, {2, 0}, {2, 4}, {9999, 9999}}) {
            gives(e, "fee " + p[0] + "|" + p[1], p[0] != 0 || p[1] != 0 ? 1 : 0);
            gives(e, "fee " + p[0] + "&" + p[1], p[0] != 0 && p[1] != 0 ? 1 : 0);
        }
        gives(e, "fee (0-1)&(0-2)", 1);
        gives(e, "fee (0-1)|0", 1);
        gives(e, "fee (0-1)&0", 0);
        gives(e, "fee !0", 1);
        gives(e, "fee !1", 0);
        gives(e, "fee !2", 0);
        gives(e, "fee !(0-1)", 0);
        gives(e, "fee !0*7", 7);
        gives(e, "fee !0+!0", 2);
        gives(e, "fee !!9999", 1);
        gives(e, "fee 0&(1/0)", 0);
        gives(e, "fee 1|(1/0)", 1);
        gives(e, "fee (1/0)|1", 1);
    }

    private static void toldLast(Edges e) {
        e.says(T, "Of a KEY that TEXT counts that was told last.");
        RiverProof x = new RiverProof();
        e.text(x, "fee 1", 0);
        e.text(x, "fine 2", 1);
        e.text(x, "fee 3", 2);
        e.rows(x, "pencil 0 50 0 = 0", "fee = 3", "fine 0 = 2", "told 0 4 = -5");
        e.text(x, "stroke 7", 3);
        e.text(x, "stroke 8", 4);
        e.text(x, "stroke (", -108);
        e.rows(x, "told 0 4 = -8");
        e.says(29, "The TEXT that counts for a KEY. BAD; NONE.");
        e.rows(x, "why 0 = 4", "why 1 = 2", "why 2 = 1", "why 3 = BAD", "why -1 = BAD", "why MIN = BAD", "why MAX = BAD");
        RiverProof y = new RiverProof();
        e.rows(y, "why 0 = NONE", "why 1 = NONE", "why 2 = NONE", "keep = 0");
        e.text(y, "fine 1", 0);
        e.rows(y, "why 0 = NONE", "why 1 = NONE", "why 2 = 0", "back = 0", "why 2 = NONE");
    }

    private static void textTold(Edges e) {
        e.says(28, "Of a TEXT: what 0 KEY (0 stroke, 1 fee, 2 fine), 1 how many NUMBERS and NAMES it has. BAD.");
        RiverProof x = new RiverProof();
        e.rows(x, "textTold 0 0 = BAD", "textTold -1 0 = BAD");
        e.text(x, "stroke i", 0);
        e.text(x, "fee !!!!!!!!((((((((s))))))))", 1);
        e.text(x, "fine 1" + "+i".repeat(45), 2);
        e.text(x, "fee 1/0*s-f|9999&s<(f)", 3);
        e.rows(x, "textTold 0 0 = 0", "textTold 0 1 = 1", "textTold 1 0 = 1", "textTold 1 1 = 1", "textTold 2 0 = 2",
            "textTold 2 1 = 46", "textTold 3 0 = 1", "textTold 3 1 = 7", "textTold 4 0 = BAD", "textTold -1 0 = BAD",
            "textTold 0 2 = BAD", "textTold 0 -1 = BAD");
    }
}
