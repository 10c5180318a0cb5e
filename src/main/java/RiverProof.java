import java.util.Arrays;

/**
 * A river that is proofread: marks on its reaches, months that pass or are only thought of, texts
 * that say how strong a stroke is, sheets, slots and an image. The words in capitals in the
 * comments are those of the document.
 */
public final class RiverProof {
    public static final int BAD = -1000000001, NO = -1000000002, FULL = -1000000003, NONE = -1000000005, NOTHING = -1000000011, KIND = -1000000012, INDEX = -1000000013, SIZE = -1000000014;

    private static final int REACHES = 12, MOST_MARKS = 10, MOST_TEXTS = 14, MOST_BYTES = 96;
    private static final int SHEETS = 4, PLACES = 24, SLOTS = 5, MOST_WAITING = 60;
    private static final int MOST_WATER = 99, MOST_INK = 99, MOST_STOOD = 9999, LAST_MONTH = 9999;
    private static final int MOST_SEA = 99999, MOST_FLOODS = 99999, MOST_STROKE = 30;
    private static final int MOST_SPRING = 99, MOST_CLERK = 100, LONGEST_LOOK = 200;

    private static final int KINDS = 6, MARK = 0, CARET = 1, QUERY = 2, TURNED = 3, STOP = 4, STET = 5;
    /** The KIND right above each KIND; MARK has none. */
    private static final int[] ABOVE = {-1, 0, 0, 1, 2, 0};

    private static final int KEYS = 3, STROKE = 0, FEE = 1, FINE = 2;

    private static final int MISSING = -1, SHORTS = 0, FLOATS = 1;
    private static final int HOLDS_NOTHING = 0, HOLDS_MARK = 1, HOLDS_SHEET = 2, HOLDS_NUMBER = 3;

    private final River now = new River();
    private final River image = new River();
    /** Where months are only thought of, so that nothing changes; made once and used again. */
    private final River thought = new River();
    private boolean kept = false;
    /** How far each REACH is from a SHEET, for like() alone. */
    private final int[] apart = new int[REACHES];
    private final Tape tape = new Tape();
    private final Row[] sheets = new Row[SHEETS];
    private final Slot[] slots = new Slot[SLOTS];
    private final int[] waiting = new int[MOST_WAITING];
    private int waits = 0;

    public RiverProof() {
        for (int i = 0; i < SHEETS; i++) {
            sheets[i] = new Row();
        }
        for (int i = 0; i < SLOTS; i++) {
            slots[i] = new Slot();
        }
    }

    // ---- marks, reaches

    public int pencil(int kind, int ink, int reach) {
        if (outside(kind, 0, KINDS - 1) || outside(ink, 0, MOST_INK) || outside(reach, 0, REACHES - 1)) {
            return BAD;
        }
        return now.addMark(kind, ink, reach);
    }

    public int told(int mark, int what) {
        if (now.lacks(mark)) {
            return BAD;
        }
        switch (what) {
            case 0: return now.kinds[mark];
            case 1: return now.inks[mark];
            case 2: return now.reaches[mark];
            case 3: return now.stood[mark];
            case 4: return now.adds(mark, now.stetReaches());
            case 5: return fadesOf(now.kinds[mark]);
            case 6: return worthOf(now.kinds[mark], now.inks[mark], now.stood[mark]);
            default: return BAD;
        }
    }

    public int as(int mark, int kind) {
        if (now.lacks(mark) || outside(kind, 0, KINDS - 1)) {
            return BAD;
        }
        return isUnder(now.kinds[mark], kind) ? now.inks[mark] : KIND;
    }

    public int turns(int mark, int kind) {
        if (now.lacks(mark) || outside(kind, 0, KINDS - 1)) {
            return BAD;
        }
        int was = now.kinds[mark];
        now.kinds[mark] = kind;
        return was;
    }

    public int set(int mark, int what, int v) {
        if (now.lacks(mark)) {
            return BAD;
        }
        switch (what) {
            case 1: return change(now.inks, mark, v, MOST_INK);
            case 2: return change(now.reaches, mark, v, REACHES - 1);
            case 3: return change(now.stood, mark, v, MOST_STOOD);
            default: return BAD;
        }
    }

    public int water(int reach, int v) {
        return change(now.waters, reach, v, MOST_WATER);
    }

    public int reachOf(int reach, int what) {
        if (outside(reach, 0, REACHES - 1)) {
            return BAD;
        }
        switch (what) {
            case 0: return now.waters[reach];
            case 1: return now.marksIn(reach);
            case 2: return now.addedIn(reach);
            case 3: return now.stetReaches() >> reach & 1;
            default: return BAD;
        }
    }

    public int rule(int what, int v) {
        if (what == 0 && !outside(v, 0, MOST_SPRING)) {
            int was = now.spring;
            now.spring = v;
            return was;
        }
        if (what == 1 && !outside(v, 0, MOST_CLERK)) {
            int was = now.clerk;
            now.clerk = v;
            return was;
        }
        return BAD;
    }

    public int deal(int n) {
        if (outside(n, 1, MOST_MARKS)) {
            return BAD;
        }
        int came = Math.min(n, MOST_MARKS - now.marks);
        for (int i = 0; i < came; i++) {
            int kind = now.draw() % KINDS;
            int ink = now.draw() % (MOST_INK + 1);
            now.addMark(kind, ink, now.draw() % REACHES);
        }
        return came;
    }

    public int seed(int v) {
        int was = now.z;
        now.z = v;
        return was;
    }

    // ---- months

    public int runs() {
        int was = now.sea;
        now.runDown();
        return now.sea - was;
    }

    public int months(int n) {
        if (outside(n, 1, 100)) {
            return BAD;
        }
        int was = now.sea;
        now.passMonths(Math.min(n, LAST_MONTH - now.month));
        return now.sea - was;
    }

    public int river(int what) {
        switch (what) {
            case 5: return now.deepest();
            case 6: return now.working();
            default: return outside(what, 0, 4) ? BAD : now.sumUp(what);
        }
    }

    // ---- what will be

    public int behind(int n, int what) {
        if (outside(n, 0, 100) || outside(what, 0, 4 + REACHES)) {
            return BAD;
        }
        thought.become(now);
        thought.passMonths(n);
        return what < 5 ? thought.sumUp(what) : thought.waters[what - 5];
    }

    public int dries(int reach) {
        return outside(reach, 0, REACHES - 1) ? BAD : firstMonthWithin(reach, 0, 0);
    }

    public int rises(int reach, int v) {
        if (outside(reach, 0, REACHES - 1) || outside(v, 0, MOST_WATER)) {
            return BAD;
        }
        return firstMonthWithin(reach, v, MOST_WATER);
    }

    public int rub(int n) {
        if (outside(n, 0, 20)) {
            return BAD;
        }
        int worthRubbing = now.inkThatMatters();
        int most = Integer.bitCount(worthRubbing);
        for (int size = 0; size <= most; size++) {
            for (int set = 0; set < 1 << MOST_MARKS && set <= worthRubbing; set++) {
                if (Integer.bitCount(set) == size && (set & ~worthRubbing) == 0 && keepsWet(set, n)) {
                    return set;
                }
            }
        }
        return NONE;
    }

    public int ink(int mark, int n, int v) {
        if (now.lacks(mark) || outside(n, 0, 60) || outside(v, 0, MOST_WATER)) {
            return BAD;
        }
        int reach = now.reaches[mark];
        for (int ink = 0; ink <= MOST_INK; ink++) {
            thought.become(now);
            thought.inks[mark] = ink;
            thought.passMonths(n);
            if (thought.waters[reach] <= v) {
                return ink;
            }
        }
        return NONE;
    }

    public int place(int mark, int n, int what) {
        if (now.lacks(mark) || outside(n, 1, 60) || outside(what, 0, 1)) {
            return BAD;
        }
        return bestFor(thought.reaches, mark, REACHES, n, what);
    }

    public int becomes(int mark, int n, int what) {
        if (now.lacks(mark) || outside(n, 1, 60) || outside(what, 0, 1)) {
            return BAD;
        }
        return bestFor(thought.kinds, mark, KINDS, n, what);
    }

    public int like(int sheet, int what) {
        if (outside(sheet, 0, SHEETS - 1) || outside(what, 0, 1)) {
            return BAD;
        }
        if (sheets[sheet].isMissing()) {
            return NOTHING;
        }
        measure(sheets[sheet]);
        int best = 0;
        for (int reach = 1; reach < REACHES; reach++) {
            if (apart[reach] < apart[best]) {
                best = reach;
            }
        }
        return what == 0 ? best : apart[best];
    }

    public int fee() {
        Text law = now.laws[FEE];
        return law == null ? now.sea : law.value(now.sea, now.floods, 0, 0);
    }

    public int fine(int mark) {
        if (now.lacks(mark)) {
            return BAD;
        }
        Text law = now.laws[FINE];
        return law == null ? now.inks[mark] : law.value(now.inks[mark], now.stood[mark], 0, 0);
    }

    // ---- texts

    public int feed(int a, int b, int c) {
        if (tape.length + 12 > MOST_BYTES) {
            return FULL;
        }
        tape.addNumber(a);
        tape.addNumber(b);
        tape.addNumber(c);
        return tape.length;
    }

    public int trim(int n) {
        if (outside(n, 0, tape.length)) {
            return BAD;
        }
        tape.length = n;
        return n;
    }

    public int text() {
        int fault = tape.readText();
        tape.length = 0;
        return fault >= 0 ? -100 - fault : now.addText(tape.lastText());
    }

    public int textTold(int text, int what) {
        Text asked = now.textAt(text);
        if (asked == null || outside(what, 0, 1)) {
            return BAD;
        }
        return what == 0 ? asked.key : asked.operands;
    }

    public int why(int key) {
        if (outside(key, 0, KEYS - 1)) {
            return BAD;
        }
        return now.lastTold[key];
    }

    // ---- sheets, slots

    public int sheet(int sheet, int sort, int n) {
        if (outside(sheet, 0, SHEETS - 1) || outside(sort, MISSING, FLOATS)) {
            return BAD;
        }
        if (sort == MISSING) {
            sheets[sheet].clearTo(MISSING, 0);
            return 0;
        }
        if (n > PLACES) {
            return BAD;
        }
        if (n < 0) {
            return SIZE;
        }
        sheets[sheet].clearTo(sort, n);
        return n;
    }

    public int mark(int sheet, int place, int v) {
        if (outside(sheet, 0, SHEETS - 1)) {
            return BAD;
        }
        Row row = sheets[sheet];
        if (row.isMissing()) {
            return NOTHING;
        }
        if (row.lacks(place)) {
            return INDEX;
        }
        if (row.sort == SHORTS && v == NONE) {
            return KIND;
        }
        if (row.sort == FLOATS && v != NONE && outside(v, -99999, 99999)) {
            return BAD;
        }
        row.cells[place] = row.sort == SHORTS ? (short) v : v;
        return 1;
    }

    public int pour(int sheet) {
        if (outside(sheet, 0, SHEETS - 1)) {
            return BAD;
        }
        Row row = sheets[sheet];
        if (row.isMissing()) {
            return NOTHING;
        }
        int changed = 0;
        for (int reach = 0; reach < REACHES && reach < row.size; reach++) {
            int poured = row.hasNumber(reach) ? within(row.cells[reach], 0, MOST_WATER) : now.waters[reach];
            if (poured != now.waters[reach]) {
                now.waters[reach] = poured;
                changed++;
            }
        }
        return changed;
    }

    public int reads(int sheet) {
        if (outside(sheet, 0, SHEETS - 1)) {
            return BAD;
        }
        Row row = sheets[sheet];
        if (row.isMissing()) {
            return NOTHING;
        }
        for (int i = 0; i < PLACES && i < row.size; i++) {
            if (row.hasNumber(i) && (now.lacks(i) || row.cells[i] != now.reaches[i])) {
                return i;
            }
        }
        return NONE;
    }

    public int copy(int from, int place, int to, int at, int many) {
        if (outside(from, 0, SHEETS - 1) || outside(to, 0, SHEETS - 1)) {
            return BAD;
        }
        Row source = sheets[from];
        Row target = sheets[to];
        if (source.isMissing() || target.isMissing()) {
            return NOTHING;
        }
        if (source.sort != target.sort) {
            return KIND;
        }
        if (source.lacksRun(place, many) || target.lacksRun(at, many)) {
            return INDEX;
        }
        System.arraycopy(source.cells, place, target.cells, at, many);
        return many;
    }

    public int lay(int slot, int thing, int k) {
        if (outside(slot, 0, SLOTS - 1) || outside(thing, HOLDS_NOTHING, HOLDS_NUMBER)) {
            return BAD;
        }
        if (thing == HOLDS_MARK && now.lacks(k) || thing == HOLDS_SHEET && outside(k, 0, SHEETS - 1)) {
            return BAD;
        }
        if (thing == HOLDS_SHEET && sheets[k].isMissing()) {
            return NOTHING;
        }
        Slot changed = slots[slot];
        int held = changed.holds;
        changed.holds = thing;
        if (thing == HOLDS_MARK) {
            changed.takeMark(now, k);
        } else if (thing == HOLDS_SHEET) {
            changed.row.become(sheets[k]);
        } else if (thing == HOLDS_NUMBER) {
            changed.number = k;
        }
        return held;
    }

    public int ask(int slot, int kind) {
        if (outside(slot, 0, SLOTS - 1) || outside(kind, 0, KINDS - 1)) {
            return BAD;
        }
        Slot asked = slots[slot];
        if (asked.holds == HOLDS_NOTHING) {
            return NOTHING;
        }
        if (asked.holds != HOLDS_MARK || !isUnder(asked.kind, kind)) {
            return KIND;
        }
        return worthOf(asked.kind, asked.ink, asked.stood);
    }

    public int item(int slot, int place) {
        if (outside(slot, 0, SLOTS - 1)) {
            return BAD;
        }
        Slot asked = slots[slot];
        if (asked.holds == HOLDS_NOTHING) {
            return NOTHING;
        }
        if (asked.holds != HOLDS_SHEET) {
            return KIND;
        }
        if (asked.row.lacks(place)) {
            return INDEX;
        }
        return asked.row.hasNumber(place) ? asked.row.cells[place] : KIND;
    }

    public int rest(int slot, int n) {
        if (outside(slot, 0, SLOTS - 1)) {
            return BAD;
        }
        Slot asked = slots[slot];
        if (asked.holds == HOLDS_NOTHING) {
            return NOTHING;
        }
        if (asked.holds != HOLDS_NUMBER) {
            return KIND;
        }
        return n == 0 ? NO : asked.number % n;
    }

    // ---- rows, images

    public int tell(int v) {
        if (waits >= MOST_WAITING) {
            return FULL;
        }
        waiting[waits] = v;
        waits++;
        return waits;
    }

    public int check(int n) {
        int many = waits;
        waits = 0;
        if (outside(n, 1, 30)) {
            return BAD;
        }
        if (!kept) {
            return NO;
        }
        int checked = Math.min(n, LAST_MONTH - image.month);
        thought.become(image);
        for (int i = 0; i < checked; i++) {
            thought.passMonths(1);
            if (differs(2 * i, many, thought.sea)) {
                return 1 + 2 * i;
            }
            if (differs(2 * i + 1, many, thought.allWater())) {
                return 2 + 2 * i;
            }
        }
        return many > 2 * checked ? 1 + 2 * checked : 0;
    }

    public int keep() {
        image.become(now);
        kept = true;
        return image.marks;
    }

    public int back() {
        if (!kept) {
            return NO;
        }
        now.become(image);
        return now.marks;
    }

    public int count(int what) {
        switch (what) {
            case 0: return now.marks;
            case 1: return now.month;
            case 2: return now.spring;
            case 3: return now.clerk;
            case 4: return now.textCount;
            case 5: return waits;
            case 6: return tape.length;
            case 7: return now.z;
            default: return BAD;
        }
    }

    // ---- what several calls need

    private static boolean outside(int v, int least, int most) {
        return v < least || v > most;
    }

    private static int within(int v, int least, int most) {
        return Math.max(least, Math.min(most, v));
    }

    private static int change(int[] row, int at, int v, int most) {
        if (outside(at, 0, row.length - 1) || outside(v, 0, most)) {
            return BAD;
        }
        int was = row[at];
        row[at] = v;
        return was;
    }

    private int firstMonthWithin(int reach, int least, int most) {
        thought.become(now);
        for (int n = 0; n <= LONGEST_LOOK; n++) {
            if (!outside(thought.waters[reach], least, most)) {
                return n;
            }
            thought.passMonths(1);
        }
        return NONE;
    }

    private boolean keepsWet(int rubbed, int n) {
        thought.become(now);
        thought.rubOut(rubbed);
        thought.passMonths(n);
        return thought.dryReaches() == 0;
    }

    /** Tries each choice for a MARK in a row of the thought river; what is 0 for the best one, 1 for SEA then. */
    private int bestFor(int[] row, int mark, int choices, int n, int what) {
        int best = 0;
        int mostSea = -1;
        for (int choice = 0; choice < choices; choice++) {
            thought.become(now);
            row[mark] = choice;
            thought.passMonths(n);
            if (thought.sea > mostSea) {
                mostSea = thought.sea;
                best = choice;
            }
        }
        return what == 0 ? best : mostSea;
    }

    private void measure(Row row) {
        Arrays.fill(apart, 0);
        thought.become(now);
        for (int k = 0; k < PLACES && k < row.size; k++) {
            for (int reach = 0; reach < REACHES && row.hasNumber(k); reach++) {
                apart[reach] += Math.abs(thought.waters[reach] - row.cells[k]);
            }
            thought.passMonths(1);
        }
    }

    private boolean differs(int at, int many, int due) {
        return at >= many || outside(at, 0, MOST_WAITING - 1) || waiting[at] != due;
    }

    // ---- kinds

    private static boolean isUnder(int kind, int above) {
        int k = kind;
        for (int i = 0; i < KINDS && !outside(k, 0, KINDS - 1); i++) {
            if (k == above) {
                return true;
            }
            k = ABOVE[k];
        }
        return false;
    }

    private static int addsOf(int kind, int plain, int water) {
        int asMark = -plain;
        int asCaret = asMark / 2;
        int asQuery = asMark + 5;
        switch (kind) {
            case MARK: return asMark;
            case CARET: return asCaret;
            case TURNED: return -asCaret;
            case QUERY: return asQuery;
            case STOP: return asQuery - water / 10;
            default: return 0;
        }
    }

    private static int fadesOf(int kind) {
        switch (kind) {
            case MARK: return 1;
            case CARET: return 2;
            case TURNED: return 4;
            case STOP: return 3;
            default: return 0;
        }
    }

    private static int worthOf(int kind, int ink, int stood) {
        switch (kind) {
            case MARK: return ink;
            case CARET: return ink + stood;
            case TURNED: return (ink + stood) / 2;
            case QUERY: return 99 - ink;
            case STOP: return 99 - ink + 7;
            default: return stood;
        }
    }

    /** All that an IMAGE keeps. */
    private static final class River {
        final int[] waters = new int[REACHES];
        int marks = 0;
        final int[] kinds = new int[MOST_MARKS];
        final int[] inks = new int[MOST_MARKS];
        final int[] reaches = new int[MOST_MARKS];
        final int[] stood = new int[MOST_MARKS];
        int spring = 10;
        int clerk = 0;
        int sea = 0;
        int floods = 0;
        int month = 0;
        int z = 1;
        int textCount = 0;
        final Text[] texts = new Text[MOST_TEXTS];
        /** By KEY: the number of the TEXT that counts, and that TEXT. */
        final int[] lastTold = {NONE, NONE, NONE};
        final Text[] laws = new Text[KEYS];

        River() {
            Arrays.fill(waters, 20);
        }

        void become(River other) {
            System.arraycopy(other.waters, 0, waters, 0, REACHES);
            marks = other.marks;
            System.arraycopy(other.kinds, 0, kinds, 0, MOST_MARKS);
            System.arraycopy(other.inks, 0, inks, 0, MOST_MARKS);
            System.arraycopy(other.reaches, 0, reaches, 0, MOST_MARKS);
            System.arraycopy(other.stood, 0, stood, 0, MOST_MARKS);
            spring = other.spring;
            clerk = other.clerk;
            sea = other.sea;
            floods = other.floods;
            month = other.month;
            z = other.z;
            textCount = other.textCount;
            // a TEXT never changes once it is told, so both may hold the same one
            for (int i = 0; i < MOST_TEXTS; i++) {
                texts[i] = other.texts[i];
            }
            for (int key = 0; key < KEYS; key++) {
                lastTold[key] = other.lastTold[key];
                laws[key] = other.laws[key];
            }
        }

        // -- marks

        boolean lacks(int m) {
            return outside(m, 0, marks - 1);
        }

        int addMark(int kind, int ink, int reach) {
            if (outside(marks, 0, MOST_MARKS - 1)) {
                return FULL;
            }
            int m = marks;
            kinds[m] = kind;
            inks[m] = ink;
            reaches[m] = reach;
            stood[m] = 0;
            marks++;
            return m;
        }

        int marksIn(int reach) {
            int set = 0;
            for (int m = 0; m < marks; m++) {
                if (reaches[m] == reach) {
                    set |= 1 << m;
                }
            }
            return set;
        }

        int stetReaches() {
            int set = 0;
            for (int m = 0; m < marks; m++) {
                if (kinds[m] == STET) {
                    set |= 1 << reaches[m];
                }
            }
            return set;
        }

        /** Takes stetReaches() as an argument because no turn of a month's marks changes it. */
        int adds(int m, int stetReaches) {
            int reach = reaches[m];
            if ((stetReaches >> reach & 1) == 1) {
                return 0;
            }
            Text law = laws[STROKE];
            int stroke = inks[m] / 10;
            if (law != null) {
                stroke = law.value(inks[m], waters[reach], stood[m], Integer.bitCount(marksIn(reach)));
            }
            return addsOf(kinds[m], within(stroke, 0, MOST_STROKE), waters[reach]);
        }

        int addedIn(int reach) {
            int stets = stetReaches();
            int sum = 0;
            for (int m = 0; m < marks; m++) {
                if (reaches[m] == reach) {
                    sum += adds(m, stets);
                }
            }
            return sum;
        }

        int working() {
            int stets = stetReaches();
            int set = 0;
            for (int m = 0; m < marks; m++) {
                if (adds(m, stets) != 0) {
                    set |= 1 << m;
                }
            }
            return set;
        }

        /** The others are in no smallest set to be rubbed out: their INK is 0 already or, as a STET's, moves nothing. */
        int inkThatMatters() {
            int set = 0;
            for (int m = 0; m < marks; m++) {
                if (inks[m] > 0 && kinds[m] != STET) {
                    set |= 1 << m;
                }
            }
            return set;
        }

        void rubOut(int set) {
            for (int m = 0; m < marks; m++) {
                if ((set >> m & 1) == 1) {
                    inks[m] = 0;
                }
            }
        }

        // -- sums

        int sumUp(int what) {
            switch (what) {
                case 0: return sea;
                case 1: return floods;
                case 2: return allWater();
                case 3: return allInk();
                default: return dryReaches();
            }
        }

        int allWater() {
            int sum = 0;
            for (int reach = 0; reach < REACHES; reach++) {
                sum += waters[reach];
            }
            return sum;
        }

        private int allInk() {
            int sum = 0;
            for (int m = 0; m < marks; m++) {
                sum += inks[m];
            }
            return sum;
        }

        int dryReaches() {
            int set = 0;
            for (int reach = 0; reach < REACHES; reach++) {
                if (waters[reach] == 0) {
                    set |= 1 << reach;
                }
            }
            return set;
        }

        int deepest() {
            int best = 0;
            for (int reach = 1; reach < REACHES; reach++) {
                if (waters[reach] > waters[best]) {
                    best = reach;
                }
            }
            return best;
        }

        // -- months

        int draw() {
            z = z * 1103515245 + 12345;
            return z >>> 8;
        }

        void passMonths(int n) {
            for (int i = 0; i < n; i++) {
                addWater(0, spring);
                marksAdd();
                runDown();
                marksFade();
                clerkWalks();
                month++;
            }
        }

        private void addWater(int reach, int more) {
            int due = waters[reach] + more;
            if (due > MOST_WATER) {
                floods = Math.min(MOST_FLOODS, floods + 1);
            }
            waters[reach] = within(due, 0, MOST_WATER);
        }

        private void marksAdd() {
            int stets = stetReaches();
            for (int m = 0; m < marks; m++) {
                addWater(reaches[m], adds(m, stets));
            }
        }

        void runDown() {
            for (int reach = REACHES - 1; reach >= 0; reach--) {
                int runs = waters[reach] / 4;
                waters[reach] -= runs;
                if (reach == REACHES - 1) {
                    sea = Math.min(MOST_SEA, sea + runs);
                } else {
                    addWater(reach + 1, runs);
                }
            }
        }

        private void marksFade() {
            for (int m = 0; m < marks; m++) {
                inks[m] = Math.max(0, inks[m] - fadesOf(kinds[m]));
                stood[m] = Math.min(MOST_STOOD, stood[m] + 1);
            }
        }

        private void clerkWalks() {
            if (draw() % 100 < clerk && marks > 0) {
                int m = draw() % marks;
                reaches[m] = draw() % REACHES;
            }
        }

        // -- texts

        Text textAt(int number) {
            return outside(number, 0, textCount - 1) ? null : texts[number];
        }

        int addText(Text told) {
            if (outside(textCount, 0, MOST_TEXTS - 1)) {
                return FULL;
            }
            int number = textCount;
            texts[number] = told;
            lastTold[told.key] = number;
            laws[told.key] = told;
            textCount++;
            return number;
        }
    }

    /** A TEXT, its E written behind-hand: each sign stands behind what it works on. */
    private static final class Text {
        /** A step is a NUMBER (less than this), a NAME (this and its place among the names) or 0 less a sign. */
        static final int NAMES_FROM = 10000;

        final int key;
        final int operands;
        private final int[] steps;
        private final int[] stack;

        Text(int key, int operands, int[] steps) {
            this.key = key;
            this.operands = operands;
            this.steps = steps;
            this.stack = new int[Math.max(1, operands)];
        }

        int value(int first, int second, int third, int fourth) {
            int top = -1;
            for (int i = 0; i < steps.length; i++) {
                int step = steps[i];
                if (step == -'!' && top >= 0) {
                    stack[top] = stack[top] == 0 ? 1 : 0;
                } else if (step < 0 && top >= 1) {
                    top--;
                    stack[top] = joined(-step, stack[top], stack[top + 1]);
                } else if (step >= 0 && top < stack.length - 1) {
                    top++;
                    stack[top] = step < NAMES_FROM ? step : named(step, first, second, third, fourth);
                }
            }
            return top >= 0 ? stack[top] : 0;
        }

        private static int named(int step, int first, int second, int third, int fourth) {
            switch (step - NAMES_FROM) {
                case 0: return first;
                case 1: return second;
                case 2: return third;
                default: return fourth;
            }
        }

        private static int joined(int sign, int a, int b) {
            switch (sign) {
                case '|': return a != 0 || b != 0 ? 1 : 0;
                case '&': return a != 0 && b != 0 ? 1 : 0;
                case '<': return a < b ? 1 : 0;
                case '=': return a == b ? 1 : 0;
                case '>': return a > b ? 1 : 0;
                case '+': return a + b;
                case '-': return a - b;
                case '*': return a * b;
                default: return b == 0 ? 0 : a / b;
            }
        }
    }

    /** THE TAPE, and the reading of it as a TEXT. */
    private static final class Tape {
        private static final int END = 0, LETTERS = 1, DIGITS = 2, SIGN = 3;
        private static final int TESTS = 2, PIECES = 5, MOST_OPEN = 8, MOST_DIGITS = 4;
        private static final String STROKE_WORD = "stroke", FEE_WORD = "fee", FINE_WORD = "fine";
        private static final String STROKE_NAMES = "iwtn", FEE_NAMES = "sf", FINE_NAMES = "it";

        private final int[] bytes = new int[MOST_BYTES];
        int length = 0;

        /** Of the word or sign that is looked at, or of the end: its first byte, the place behind it, what it is. */
        private int start = 0;
        private int past = 0;
        private int type = END;
        /** It is a word right behind another one, without the blank that it needs. */
        private boolean lacksBlank = false;

        private int key = -1;
        private int operands = 0;
        private final int[] steps = new int[MOST_BYTES];
        private int size = 0;

        void addNumber(int v) {
            for (int shift = 24; shift >= 0; shift -= 8) {
                if (length < MOST_BYTES) {
                    bytes[length] = v >> shift & 255;
                    length++;
                }
            }
        }

        /** The place of the FAULT, or -1 if there is none: then lastText() is what was read. */
        int readText() {
            past = 0;
            type = SIGN;
            operands = 0;
            size = 0;
            lookOn();
            key = keyHere();
            if (key < 0) {
                return start;
            }
            lookOn();
            return readLevel(0, 0, 0) && type == END ? -1 : start;
        }

        Text lastText() {
            return new Text(key, operands, Arrays.copyOf(steps, size));
        }

        private void lookOn() {
            boolean wasWord = isWord();
            int from = past;
            start = from;
            while (start < length && bytes[start] == ' ') {
                start++;
            }
            type = typeAt(start);
            lacksBlank = wasWord && isWord() && start == from;
            past = Math.min(length, start + 1);
            while (isWord() && past < length && typeAt(past) == type) {
                past++;
            }
        }

        private boolean isWord() {
            return type == LETTERS || type == DIGITS;
        }

        private int typeAt(int place) {
            if (place < 0 || place >= length) {
                return END;
            }
            int b = bytes[place];
            if (b >= 'a' && b <= 'z') {
                return LETTERS;
            }
            return b >= '0' && b <= '9' ? DIGITS : SIGN;
        }

        private int signHere() {
            return type == SIGN ? bytes[start] : -1;
        }

        private int keyHere() {
            if (isHere(STROKE_WORD)) {
                return STROKE;
            }
            if (isHere(FEE_WORD)) {
                return FEE;
            }
            return isHere(FINE_WORD) ? FINE : -1;
        }

        private boolean isHere(String word) {
            if (type != LETTERS || past - start != word.length()) {
                return false;
            }
            for (int i = 0; i < word.length(); i++) {
                if (bytes[start + i] != word.charAt(i)) {
                    return false;
                }
            }
            return true;
        }

        /** Levels 0 OR, 1 AND, 2 TEST, 3 SUM, 4 TERM, 5 PIECE; false: the FAULT is what is looked at. */
        private boolean readLevel(int level, int brackets, int nots) {
            if (level >= PIECES) {
                return readPiece(brackets, nots);
            }
            boolean good = readLevel(level + 1, brackets, nots);
            int most = level == TESTS ? 1 : MOST_BYTES;
            for (int i = 0; i < most && good && joinsAt(level, signHere()); i++) {
                int sign = signHere();
                lookOn();
                good = readLevel(level + 1, brackets, nots);
                addStep(-sign);
            }
            return good;
        }

        private static boolean joinsAt(int level, int sign) {
            switch (level) {
                case 0: return sign == '|';
                case 1: return sign == '&';
                case 2: return sign == '<' || sign == '=' || sign == '>';
                case 3: return sign == '+' || sign == '-';
                default: return sign == '*' || sign == '/';
            }
        }

        private boolean readPiece(int brackets, int nots) {
            if (isWord()) {
                return readOperand();
            }
            int sign = signHere();
            if (sign == '!' && nots < MOST_OPEN) {
                lookOn();
                boolean good = readPiece(brackets, nots + 1);
                addStep(-'!');
                return good;
            }
            if (sign == '(' && brackets < MOST_OPEN) {
                lookOn();
                if (!readLevel(0, brackets + 1, nots) || signHere() != ')') {
                    return false;
                }
                lookOn();
                return true;
            }
            return false;
        }

        private boolean readOperand() {
            int step = type == DIGITS ? numberHere() : nameHere();
            if (lacksBlank || step < 0) {
                return false;
            }
            addStep(step);
            operands++;
            lookOn();
            return true;
        }

        private int numberHere() {
            if (past - start > MOST_DIGITS) {
                return -1;
            }
            int number = 0;
            for (int i = start; i < past; i++) {
                number = number * 10 + bytes[i] - '0';
            }
            return number;
        }

        private int nameHere() {
            String names = key == STROKE ? STROKE_NAMES : key == FEE ? FEE_NAMES : FINE_NAMES;
            int at = past - start == 1 ? names.indexOf((char) bytes[start]) : -1;
            return at < 0 ? -1 : Text.NAMES_FROM + at;
        }

        private void addStep(int step) {
            if (size < MOST_BYTES) {
                steps[size] = step;
                size++;
            }
        }
    }

    /** A SHEET; NO NUMBER is NONE, which is no number that a place can hold. */
    private static final class Row {
        int sort = MISSING;
        int size = 0;
        final int[] cells = new int[PLACES];

        boolean isMissing() {
            return sort == MISSING;
        }

        boolean lacks(int place) {
            return outside(place, 0, size - 1);
        }

        /** In longs, so that the end of the run does not wrap. */
        boolean lacksRun(int place, int many) {
            return place < 0 || many < 0 || (long) place + many > size;
        }

        boolean hasNumber(int place) {
            return !lacks(place) && cells[place] != NONE;
        }

        void clearTo(int newSort, int newSize) {
            sort = newSort;
            size = newSize;
            Arrays.fill(cells, 0);
        }

        void become(Row other) {
            sort = other.sort;
            size = other.size;
            System.arraycopy(other.cells, 0, cells, 0, PLACES);
        }
    }

    /** A SLOT; what it does not hold now is left from earlier and not looked at. */
    private static final class Slot {
        int holds = HOLDS_NOTHING;
        int kind = MARK;
        int ink = 0;
        int stood = 0;
        int number = 0;
        final Row row = new Row();

        void takeMark(River river, int m) {
            kind = river.kinds[m];
            ink = river.inks[m];
            stood = river.stood[m];
        }
    }
}
