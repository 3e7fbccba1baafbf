/** A family's passage, its diggers, its warders and its laws, as the document tells them. */
public final class SpoonPassage {
    public static final int BAD = -1000000001, NO = -1000000002, FULL = -1000000003, NONE = -1000000005, NOTHING = -1000000011, KIND = -1000000012, INDEX = -1000000013, SIZE = -1000000014;

    private static final int BRANCHES = 4, MOST_DIGGERS = 10, MOST_DUG = 999, MOST_EARTH = 9999, LAST_NIGHT = 9999;
    private static final int DIGGER = 0, SON = 1, UNCLE = 2, BOY = 3, LODGER = 4, NUN = 5;
    /** Of each kind the one that it is under; the first is under none. */
    private static final int[] ABOVE = {-1, DIGGER, DIGGER, SON, UNCLE, DIGGER};
    /** Nobody digs more in one night: a SON with the most that PLAIN can be. */
    private static final int MOST_DIGS = 100;
    private static final int FAR = 40, THOUGHT_NIGHTS = 200;

    private static final int DIG = 0, FEE = 1, FINE = 2, KEYS = 3;
    private static final int MOST_TEXTS = 14, TAPE_ROOM = 96, MOST_OPEN = 8, MOST_DIGITS = 4;
    /** A step of a text's code is a number as it is, a name from NAMED on, or a sign from SIGNED on. */
    private static final int NAMED = 10000, SIGNED = 20000, NAMES = 4;
    private static final int END = 0, LETTERS = 1, DIGITS = 2, SIGN = 3;
    private static final int LOOSEST = 0, TEST = 2, PIECE = 5;

    private static final int SHEETS = 4, MOST_PLACES = 24, MISSING = -1, SHORTS = 0, FLOATS = 1, MOST_FLOAT = 99999;
    private static final int SLOTS = 5, HOLDS_NOTHING = 0, HOLDS_DIGGER = 1, HOLDS_SHEET = 2, HOLDS_NUMBER = 3;
    private static final int MOST_WAITING = 60;

    private final Texts texts;
    private final Reader reader;
    private final Passage now;
    private final Passage image;
    /** Where all that is only thought takes place. */
    private final Passage thought;
    private final Sheet[] sheets;
    private final Slot[] slots;
    private final int[] waiting;
    private int waits;
    private boolean kept;

    public SpoonPassage() {
        texts = new Texts();
        reader = new Reader();
        now = new Passage(texts);
        image = new Passage(texts);
        thought = new Passage(texts);
        sheets = new Sheet[SHEETS];
        for (int i = 0; i < SHEETS; i++) {
            sheets[i] = new Sheet();
        }
        slots = new Slot[SLOTS];
        for (int i = 0; i < SLOTS; i++) {
            slots[i] = new Slot();
        }
        waiting = new int[MOST_WAITING];
        waits = 0;
        kept = false;
    }

    // ---- diggers

    public int digger(int kind, int force, int candles, int branch) {
        if (!isKind(kind) || !within(force, 0, 99) || !within(candles, 0, 99) || !isBranch(branch)) {
            return BAD;
        }
        return now.diggers < MOST_DIGGERS ? now.add(kind, force, candles, branch) : FULL;
    }

    public int told(int digger, int what) {
        if (!isDigger(digger)) {
            return BAD;
        }
        Digger d = now.family[digger];
        switch (what) {
            case 0: return d.kind;
            case 1: return d.force;
            case 2: return d.candles;
            case 3: return d.branch;
            case 4: return d.earth;
            case 5: return now.digs(digger);
            case 6: return now.burns(digger);
            case 7: return d.worth();
            default: return BAD;
        }
    }

    public int as(int digger, int kind) {
        if (!isDigger(digger) || !isKind(kind)) {
            return BAD;
        }
        Digger d = now.family[digger];
        return d.isOne(kind) ? d.force : KIND;
    }

    public int turns(int digger, int kind) {
        if (!isDigger(digger) || !isKind(kind)) {
            return BAD;
        }
        Digger d = now.family[digger];
        int was = d.kind;
        d.kind = kind;
        return was;
    }

    public int set(int digger, int what, int v) {
        if (!isDigger(digger) || !within(what, 1, 2) || !within(v, 0, 99)) {
            return BAD;
        }
        Digger d = now.family[digger];
        int was;
        if (what == 1) {
            was = d.force;
            d.force = v;
        } else {
            was = d.candles;
            d.candles = v;
        }
        return was;
    }

    public int sends(int digger, int branch) {
        if (!isDigger(digger) || !isBranch(branch)) {
            return BAD;
        }
        Digger d = now.family[digger];
        int was = d.branch;
        d.branch = branch;
        return was;
    }

    public int branch(int branch, int what, int v) {
        if (!isBranch(branch)) {
            return BAD;
        }
        Branch b = now.branches[branch];
        int was;
        switch (what) {
            case 0:
                if (!within(v, b.warder, MOST_DUG)) {
                    return BAD;
                }
                was = b.dug;
                b.dug = v;
                return was;
            case 1:
                if (!within(v, 0, 99)) {
                    return BAD;
                }
                was = b.rock;
                b.rock = v;
                return was;
            case 2:
                if (!within(v, 0, b.dug)) {
                    return BAD;
                }
                was = b.warder;
                b.warder = v;
                return was;
            default:
                return BAD;
        }
    }

    public int branchOf(int branch, int what) {
        if (!isBranch(branch)) {
            return BAD;
        }
        Branch b = now.branches[branch];
        switch (what) {
            case 0: return b.dug;
            case 1: return b.rock;
            case 2: return b.warder;
            case 3: return b.ahead();
            case 4: return now.diggersIn(branch);
            case 5: return now.digIn(branch);
            default: return BAD;
        }
    }

    public int rule(int what, int v) {
        int was;
        if (what == 0 && within(v, 0, 99)) {
            was = now.step;
            now.step = v;
            return was;
        }
        if (what == 1 && within(v, 0, 100)) {
            was = now.fall;
            now.fall = v;
            return was;
        }
        return BAD;
    }

    public int deal(int n) {
        if (!within(n, 1, MOST_DIGGERS)) {
            return BAD;
        }
        int came = Math.min(n, MOST_DIGGERS - now.diggers);
        for (int i = 0; i < came; i++) {
            now.addDrawn();
        }
        return came;
    }

    public int seed(int v) {
        int was = now.z;
        now.z = v;
        return was;
    }

    // ---- nights

    public int nights(int n) {
        if (!within(n, 1, 100)) {
            return BAD;
        }
        int before = now.hill();
        now.pass(Math.min(n, LAST_NIGHT - now.night));
        return now.hill() - before;
    }

    public int below(int what) {
        switch (what) {
            case 0: return now.met;
            case 1: return now.falls;
            case 2: return now.hill();
            case 3: return now.candlesOfAll();
            case 4: return now.branchesInUse();
            case 5: return now.front();
            default: return BAD;
        }
    }

    // ---- what will be

    public int behind(int n, int what) {
        if (!within(n, 0, 100) || !within(what, 0, 2 + BRANCHES)) {
            return BAD;
        }
        thought.becomeAs(now);
        thought.pass(n);
        switch (what) {
            case 0: return thought.met;
            case 1: return thought.falls;
            case 2: return thought.hill();
            default: return thought.branches[what - 3].dug;
        }
    }

    public int reaches(int branch, int v) {
        if (!isBranch(branch) || !within(v, 0, MOST_DUG)) {
            return BAD;
        }
        thought.becomeAs(now);
        Branch b = thought.branches[branch];
        for (int n = 0; n <= THOUGHT_NIGHTS; n++) {
            if (b.dug >= v) {
                return n;
            }
            thought.pass(1);
        }
        return NONE;
    }

    public int leaves(int digger) {
        if (!isDigger(digger)) {
            return BAD;
        }
        thought.becomeAs(now);
        Digger d = thought.family[digger];
        int from = d.branch;
        for (int n = 1; n <= THOUGHT_NIGHTS; n++) {
            thought.pass(1);
            if (d.branch != from) {
                return n;
            }
        }
        return NONE;
    }

    public int light(int n, int v) {
        if (!within(n, 0, 10) || !within(v, 0, MOST_EARTH)) {
            return BAD;
        }
        int wanted = v - now.hill();
        if (wanted > now.room()) {
            return NONE;
        }
        // one without candles is in no set of the fewest: the others raise as much
        int lit = now.lit();
        for (int size = 0; size <= now.diggers; size++) {
            // so few that they can't dig as much need not be tried
            boolean enough = wanted <= size * n * MOST_DIGS;
            for (int set = 0; enough && set <= lit; set++) {
                if ((set & ~lit) == 0 && Integer.bitCount(set) == size) {
                    thought.becomeAs(now);
                    thought.putOutAllBut(set);
                    thought.pass(n);
                    if (thought.hill() >= v) {
                        return set;
                    }
                }
            }
        }
        return NONE;
    }

    public int wax(int digger, int n, int v) {
        if (!isDigger(digger) || !within(n, 0, 30) || !within(v, 0, MOST_EARTH)) {
            return BAD;
        }
        Digger d = thought.family[digger];
        for (int candles = 0; candles <= 99; candles++) {
            thought.becomeAs(now);
            d.candles = candles;
            thought.pass(n);
            if (d.earth >= v) {
                return candles;
            }
        }
        return NONE;
    }

    public int sent(int digger, int n, int what) {
        if (!isDigger(digger) || !within(n, 1, 60) || !within(what, 0, 1)) {
            return BAD;
        }
        Digger d = thought.family[digger];
        int best = 0;
        int most = -1;
        for (int branch = 0; branch < BRANCHES; branch++) {
            thought.becomeAs(now);
            d.branch = branch;
            thought.pass(n);
            if (d.earth > most) {
                most = d.earth;
                best = branch;
            }
        }
        return what == 0 ? best : most;
    }

    public int becomes(int digger, int n, int what) {
        if (!isDigger(digger) || !within(n, 1, 60) || !within(what, 0, 1)) {
            return BAD;
        }
        Digger d = thought.family[digger];
        int best = 0;
        int most = -1;
        for (int kind = DIGGER; kind <= NUN; kind++) {
            thought.becomeAs(now);
            d.kind = kind;
            thought.pass(n);
            if (d.earth > most) {
                most = d.earth;
                best = kind;
            }
        }
        return what == 0 ? best : most;
    }

    public int like(int sheet, int what) {
        if (!isSheet(sheet) || !within(what, 0, 1)) {
            return BAD;
        }
        Sheet s = sheets[sheet];
        if (s.isMissing()) {
            return NOTHING;
        }
        int best = 0;
        int least = differences(s, 0);
        for (int branch = 1; branch < BRANCHES; branch++) {
            int differ = differences(s, branch);
            if (differ < least) {
                least = differ;
                best = branch;
            }
        }
        return what == 0 ? best : least;
    }

    public int fee() {
        return now.feeGives();
    }

    public int fine(int digger) {
        return isDigger(digger) ? now.fineGives(now.family[digger]) : BAD;
    }

    // ---- texts

    public int feed(int a, int b, int c) {
        if (reader.size + 12 > TAPE_ROOM) {
            return FULL;
        }
        reader.addBytes(a);
        reader.addBytes(b);
        reader.addBytes(c);
        return reader.size;
    }

    public int trim(int n) {
        if (!within(n, 0, reader.size)) {
            return BAD;
        }
        reader.size = n;
        return n;
    }

    public int text() {
        int fault = reader.fault();
        reader.size = 0;
        if (fault >= 0) {
            return -100 - fault;
        }
        return now.texts < MOST_TEXTS ? now.addText(reader) : FULL;
    }

    public int textTold(int text, int what) {
        if (!within(text, 0, now.texts - 1) || !within(what, 0, 1)) {
            return BAD;
        }
        return what == 0 ? texts.keys[text] : texts.leafCounts[text];
    }

    public int why(int key) {
        return within(key, 0, KEYS - 1) ? now.laws[key] : BAD;
    }

    // ---- sheets, slots

    public int sheet(int sheet, int sort, int n) {
        if (!isSheet(sheet) || !within(sort, MISSING, FLOATS)) {
            return BAD;
        }
        if (sort == MISSING) {
            sheets[sheet].become(MISSING, 0);
            return 0;
        }
        if (n > MOST_PLACES) {
            return BAD;
        }
        if (n < 0) {
            return SIZE;
        }
        sheets[sheet].become(sort, n);
        return n;
    }

    public int mark(int sheet, int place, int v) {
        if (!isSheet(sheet)) {
            return BAD;
        }
        Sheet s = sheets[sheet];
        if (s.isMissing()) {
            return NOTHING;
        }
        if (!s.hasPlace(place)) {
            return INDEX;
        }
        if (s.sort == SHORTS) {
            if (v == NONE) {
                return KIND;
            }
            s.places[place] = (short) v;
            return 1;
        }
        if (v != NONE && !within(v, -MOST_FLOAT, MOST_FLOAT)) {
            return BAD;
        }
        s.places[place] = v;
        return 1;
    }

    public int pour(int sheet) {
        if (!isSheet(sheet)) {
            return BAD;
        }
        Sheet s = sheets[sheet];
        if (s.isMissing()) {
            return NOTHING;
        }
        int changed = 0;
        int many = Math.min(s.size, now.diggers);
        for (int i = 0; i < many; i++) {
            if (s.isNumber(i)) {
                Digger d = now.family[i];
                int candles = held(s.places[i]);
                changed += candles == d.candles ? 0 : 1;
                d.candles = candles;
            }
        }
        return changed;
    }

    public int reads(int sheet) {
        if (!isSheet(sheet)) {
            return BAD;
        }
        Sheet s = sheets[sheet];
        if (s.isMissing()) {
            return NOTHING;
        }
        for (int i = 0; i < s.size; i++) {
            if (s.isNumber(i) && (i >= now.diggers || s.places[i] != now.family[i].branch)) {
                return i;
            }
        }
        return NONE;
    }

    public int copy(int from, int place, int to, int at, int many) {
        if (!isSheet(from) || !isSheet(to)) {
            return BAD;
        }
        Sheet source = sheets[from];
        Sheet target = sheets[to];
        if (source.isMissing() || target.isMissing()) {
            return NOTHING;
        }
        if (source.sort != target.sort) {
            return KIND;
        }
        if (!source.hasPlaces(place, many) || !target.hasPlaces(at, many)) {
            return INDEX;
        }
        System.arraycopy(source.places, place, target.places, at, many);
        return many;
    }

    public int lay(int slot, int thing, int k) {
        if (!isSlot(slot) || !within(thing, HOLDS_NOTHING, HOLDS_NUMBER)) {
            return BAD;
        }
        if (thing == HOLDS_DIGGER && !isDigger(k) || thing == HOLDS_SHEET && !isSheet(k)) {
            return BAD;
        }
        if (thing == HOLDS_SHEET && sheets[k].isMissing()) {
            return NOTHING;
        }
        Slot s = slots[slot];
        int held = s.thing;
        s.thing = thing;
        if (thing == HOLDS_DIGGER) {
            s.digger.becomeAs(now.family[k]);
        } else if (thing == HOLDS_SHEET) {
            s.row.becomeAs(sheets[k]);
        } else {
            s.number = k;
        }
        return held;
    }

    public int ask(int slot, int kind) {
        if (!isSlot(slot) || !isKind(kind)) {
            return BAD;
        }
        Slot s = slots[slot];
        if (s.thing == HOLDS_NOTHING) {
            return NOTHING;
        }
        // taken for one of a kind above its own, it is worth what it is by its own
        return s.thing == HOLDS_DIGGER && s.digger.isOne(kind) ? s.digger.worth() : KIND;
    }

    public int item(int slot, int place) {
        if (!isSlot(slot)) {
            return BAD;
        }
        Slot s = slots[slot];
        if (s.thing == HOLDS_NOTHING) {
            return NOTHING;
        }
        if (s.thing != HOLDS_SHEET) {
            return KIND;
        }
        if (!s.row.hasPlace(place)) {
            return INDEX;
        }
        return s.row.isNumber(place) ? s.row.places[place] : KIND;
    }

    public int rest(int slot, int n) {
        if (!isSlot(slot)) {
            return BAD;
        }
        Slot s = slots[slot];
        if (s.thing == HOLDS_NOTHING) {
            return NOTHING;
        }
        if (s.thing != HOLDS_NUMBER) {
            return KIND;
        }
        return n == 0 ? NO : s.number % n;
    }

    // ---- rows, images

    public int tell(int v) {
        if (waits >= MOST_WAITING) {
            return FULL;
        }
        waiting[waits] = v;
        waits++;
        return waits;
    }

    public int check(int n) {
        int told = waits;
        waits = 0;
        if (!within(n, 1, 30)) {
            return BAD;
        }
        if (!kept) {
            return NO;
        }
        int nights = Math.min(n, LAST_NIGHT - image.night);
        thought.becomeAs(image);
        for (int i = 0; i < nights; i++) {
            thought.pass(1);
            if (!isTold(2 * i, told, thought.met)) {
                return 1 + 2 * i;
            }
            if (!isTold(2 * i + 1, told, thought.dugOfAll())) {
                return 2 + 2 * i;
            }
        }
        return told > 2 * nights ? 1 + 2 * nights : 0;
    }

    public int keep() {
        image.becomeAs(now);
        kept = true;
        return image.diggers;
    }

    public int back() {
        if (!kept) {
            return NO;
        }
        now.becomeAs(image);
        return now.diggers;
    }

    public int count(int what) {
        switch (what) {
            case 0: return now.diggers;
            case 1: return now.night;
            case 2: return now.step;
            case 3: return now.fall;
            case 4: return now.met;
            case 5: return now.falls;
            case 6: return now.texts;
            case 7: return waits;
            case 8: return reader.size;
            case 9: return now.z;
            default: return BAD;
        }
    }

    // ---- helpers

    private static boolean within(int v, int least, int most) {
        return v >= least && v <= most;
    }

    /** What CANDLES and PLAIN dig are held within. */
    private static int held(int v) {
        return Math.max(0, Math.min(99, v));
    }

    private static boolean isKind(int kind) {
        return within(kind, DIGGER, NUN);
    }

    private static boolean isBranch(int branch) {
        return within(branch, 0, BRANCHES - 1);
    }

    private static boolean isSheet(int sheet) {
        return within(sheet, 0, SHEETS - 1);
    }

    private static boolean isSlot(int slot) {
        return within(slot, 0, SLOTS - 1);
    }

    private boolean isDigger(int digger) {
        return within(digger, 0, now.diggers - 1);
    }

    /** How much a sheet's numbers and a branch's DUG, night by night from now on, differ. */
    private int differences(Sheet s, int branch) {
        thought.becomeAs(now);
        Branch b = thought.branches[branch];
        int sum = 0;
        for (int k = 0; k < s.size; k++) {
            if (s.isNumber(k)) {
                sum += Math.abs(b.dug - s.places[k]);
            }
            thought.pass(1);
        }
        return sum;
    }

    private boolean isTold(int place, int told, int due) {
        return place < told && place < MOST_WAITING && waiting[place] == due;
    }

    /** One of the family. */
    private static final class Digger {
        int kind;
        int force;
        int candles;
        int branch;
        int earth;

        void becomeAs(Digger other) {
            kind = other.kind;
            force = other.force;
            candles = other.candles;
            branch = other.branch;
            earth = other.earth;
        }

        boolean isLit() {
            return candles > 0;
        }

        /** If it is of that kind, or of one under it. */
        boolean isOne(int wanted) {
            int k = kind;
            for (int i = 0; i < ABOVE.length && k >= 0; i++) {
                if (k == wanted) {
                    return true;
                }
                k = ABOVE[k];
            }
            return false;
        }

        int worth() {
            switch (kind) {
                case SON: return candles + force;
                case BOY: return 2 * (candles + force);
                case UNCLE: return 99 - candles;
                case LODGER: return (99 - candles) / 2;
                case NUN: return earth / 10;
                default: return candles;
            }
        }
    }

    /** One way that the passage goes. */
    private static final class Branch {
        int dug;
        int rock;
        int warder;

        Branch() {
            rock = 10;
        }

        void becomeAs(Branch other) {
            dug = other.dug;
            rock = other.rock;
            warder = other.warder;
        }

        int ahead() {
            return dug - warder;
        }
    }

    /** All that an image keeps: the family, the branches, the rules, and which texts there are. */
    private static final class Passage {
        final Branch[] branches;
        final Digger[] family;
        /** Of each key the text that counts, or NONE. */
        final int[] laws;
        /** The texts themselves are the same for all: none is changed while a passage has it. */
        final Texts table;
        int diggers;
        int texts;
        int step;
        int fall;
        int met;
        int falls;
        int night;
        int z;

        Passage(Texts table) {
            this.table = table;
            branches = new Branch[BRANCHES];
            for (int i = 0; i < BRANCHES; i++) {
                branches[i] = new Branch();
            }
            family = new Digger[MOST_DIGGERS];
            for (int i = 0; i < MOST_DIGGERS; i++) {
                family[i] = new Digger();
            }
            laws = new int[KEYS];
            for (int i = 0; i < KEYS; i++) {
                laws[i] = NONE;
            }
            step = 3;
            z = 1;
        }

        void becomeAs(Passage other) {
            for (int i = 0; i < BRANCHES; i++) {
                branches[i].becomeAs(other.branches[i]);
            }
            for (int i = 0; i < other.diggers; i++) {
                family[i].becomeAs(other.family[i]);
            }
            for (int i = 0; i < KEYS; i++) {
                laws[i] = other.laws[i];
            }
            diggers = other.diggers;
            texts = other.texts;
            step = other.step;
            fall = other.fall;
            met = other.met;
            falls = other.falls;
            night = other.night;
            z = other.z;
        }

        int add(int kind, int force, int candles, int branch) {
            if (diggers >= MOST_DIGGERS) {
                return FULL;
            }
            Digger d = family[diggers];
            d.kind = kind;
            d.force = force;
            d.candles = candles;
            d.branch = branch;
            d.earth = 0;
            diggers++;
            return diggers - 1;
        }

        void addDrawn() {
            int kind = draw() % 6;
            int force = draw() % 40 + 10;
            int candles = draw() % 60 + 5;
            int branch = draw() % BRANCHES;
            add(kind, force, candles, branch);
        }

        int draw() {
            z = z * 1103515245 + 12345;
            return z >>> 8;
        }

        int addText(Reader reader) {
            if (texts >= MOST_TEXTS) {
                return FULL;
            }
            int number = texts;
            table.write(number, reader);
            if (within(reader.key, DIG, FINE)) {
                laws[reader.key] = number;
            }
            texts++;
            return number;
        }

        void pass(int many) {
            for (int i = 0; i < many; i++) {
                digAll();
                for (int branch = 0; branch < BRANCHES; branch++) {
                    follow(branch);
                }
                letRockFall();
                night++;
            }
        }

        void digAll() {
            for (int i = 0; i < diggers; i++) {
                Digger d = family[i];
                if (d.isLit()) {
                    // both are looked at first: what is dug here changes AHEAD
                    int digs = digs(i);
                    int burns = burns(i);
                    Branch b = branches[d.branch];
                    int more = Math.min(digs, MOST_DUG - b.dug);
                    b.dug += more;
                    d.earth = Math.min(MOST_EARTH, d.earth + more);
                    d.candles = Math.max(0, d.candles - burns);
                }
            }
        }

        void follow(int branch) {
            Branch b = branches[branch];
            b.warder = Math.min(b.dug, b.warder + step);
            if (b.warder == b.dug && diggersIn(branch) != 0) {
                met++;
                flee(branch);
            }
        }

        void flee(int branch) {
            int next = (branch + 1) % BRANCHES;
            for (int i = 0; i < diggers; i++) {
                if (family[i].branch == branch) {
                    family[i].branch = next;
                }
            }
        }

        void letRockFall() {
            if (draw() % 100 < fall) {
                int branch = draw() % BRANCHES;
                branches[branch].rock = draw() % 100;
                falls++;
            }
        }

        int digs(int digger) {
            Digger d = family[digger];
            if (d.kind == NUN) {
                return 1;
            }
            int plain = plain(d);
            switch (d.kind) {
                case SON: return plain + 1;
                case BOY: return isFar(d) ? (plain + 1) / 2 : plain + 1;
                case UNCLE: return plain / 2;
                case LODGER: return plain / 2 + 2 * matesOf(digger);
                default: return plain;
            }
        }

        int burns(int digger) {
            Digger d = family[digger];
            switch (d.kind) {
                case SON: return 2;
                case BOY: return isFar(d) ? 0 : 2;
                case UNCLE: return 0;
                case LODGER: return 3;
                case NUN: return 2;
                default: return 1;
            }
        }

        boolean isFar(Digger d) {
            return branches[d.branch].ahead() > FAR;
        }

        int plain(Digger d) {
            Branch b = branches[d.branch];
            if (laws[DIG] == NONE) {
                return held(d.force - b.rock);
            }
            table.put(0, d.force);
            table.put(1, b.rock);
            table.put(2, b.ahead());
            table.put(3, litIn(d.branch));
            return held(table.gives(laws[DIG]));
        }

        int feeGives() {
            if (laws[FEE] == NONE) {
                return met;
            }
            table.put(0, met);
            table.put(1, hill());
            return table.gives(laws[FEE]);
        }

        int fineGives(Digger d) {
            if (laws[FINE] == NONE) {
                return d.candles;
            }
            table.put(0, d.force);
            table.put(1, d.candles);
            return table.gives(laws[FINE]);
        }

        /** How many others of UNCLE's kind are LIT beside a digger. */
        int matesOf(int digger) {
            int many = 0;
            for (int i = 0; i < diggers; i++) {
                Digger d = family[i];
                if (i != digger && d.isLit() && d.branch == family[digger].branch && d.isOne(UNCLE)) {
                    many++;
                }
            }
            return many;
        }

        int litIn(int branch) {
            int many = 0;
            for (int i = 0; i < diggers; i++) {
                if (family[i].branch == branch && family[i].isLit()) {
                    many++;
                }
            }
            return many;
        }

        int diggersIn(int branch) {
            int set = 0;
            for (int i = 0; i < diggers; i++) {
                if (family[i].branch == branch) {
                    set |= 1 << i;
                }
            }
            return set;
        }

        int digIn(int branch) {
            int sum = 0;
            for (int i = 0; i < diggers; i++) {
                if (family[i].branch == branch && family[i].isLit()) {
                    sum += digs(i);
                }
            }
            return sum;
        }

        int lit() {
            int set = 0;
            for (int i = 0; i < diggers; i++) {
                if (family[i].isLit()) {
                    set |= 1 << i;
                }
            }
            return set;
        }

        void putOutAllBut(int set) {
            for (int i = 0; i < diggers; i++) {
                if ((set & 1 << i) == 0) {
                    family[i].candles = 0;
                }
            }
        }

        int hill() {
            int sum = 0;
            for (int i = 0; i < diggers; i++) {
                sum += family[i].earth;
            }
            return sum;
        }

        int candlesOfAll() {
            int sum = 0;
            for (int i = 0; i < diggers; i++) {
                sum += family[i].candles;
            }
            return sum;
        }

        int branchesInUse() {
            int set = 0;
            for (int i = 0; i < diggers; i++) {
                set |= 1 << family[i].branch;
            }
            return set;
        }

        int dugOfAll() {
            int sum = 0;
            for (int i = 0; i < BRANCHES; i++) {
                sum += branches[i].dug;
            }
            return sum;
        }

        /** How much can be dug yet, and so be got rid of. */
        int room() {
            return BRANCHES * MOST_DUG - dugOfAll();
        }

        int front() {
            int front = 0;
            for (int i = 1; i < BRANCHES; i++) {
                if (branches[i].dug > branches[front].dug) {
                    front = i;
                }
            }
            return front;
        }
    }

    /** The texts that were told, each as code that has its parts ahead of their sign. */
    private static final class Texts {
        final int[] keys;
        final int[] leafCounts;
        final int[] lengths;
        final int[] code;
        final int[] named;
        final int[] stack;

        Texts() {
            keys = new int[MOST_TEXTS];
            leafCounts = new int[MOST_TEXTS];
            lengths = new int[MOST_TEXTS];
            code = new int[MOST_TEXTS * TAPE_ROOM];
            named = new int[NAMES];
            stack = new int[TAPE_ROOM];
        }

        void write(int text, Reader reader) {
            if (text < 0 || text >= MOST_TEXTS) {
                return;
            }
            keys[text] = reader.key;
            leafCounts[text] = reader.leafCount;
            lengths[text] = reader.length;
            for (int i = 0; i < reader.length && i < TAPE_ROOM; i++) {
                code[text * TAPE_ROOM + i] = reader.code[i];
            }
        }

        void put(int name, int v) {
            if (name >= 0 && name < NAMES) {
                named[name] = v;
            }
        }

        /** What a text gives with the names as they were put last. */
        int gives(int text) {
            if (text < 0 || text >= MOST_TEXTS) {
                return 0;
            }
            int from = text * TAPE_ROOM;
            int top = 0;
            for (int i = 0; i < lengths[text] && i < TAPE_ROOM && top < TAPE_ROOM; i++) {
                int step = code[from + i];
                if (step < SIGNED) {
                    stack[top] = step < NAMED ? step : named[(step - NAMED) % NAMES];
                    top++;
                } else if (step == SIGNED + '!' && top >= 1) {
                    stack[top - 1] = stack[top - 1] == 0 ? 1 : 0;
                } else if (top >= 2) {
                    top--;
                    stack[top - 1] = joined(step - SIGNED, stack[top - 1], stack[top]);
                }
            }
            return stack[0];
        }

        static int joined(int sign, int a, int b) {
            switch (sign) {
                case '|': return a != 0 || b != 0 ? 1 : 0;
                case '&': return a != 0 && b != 0 ? 1 : 0;
                case '<': return a < b ? 1 : 0;
                case '=': return a == b ? 1 : 0;
                case '>': return a > b ? 1 : 0;
                case '+': return a + b;
                case '-': return a - b;
                case '*': return a * b;
                default: return b == 0 ? 0 : a / b;
            }
        }
    }

    /** The tape, and what is made of it when it is read as a text. */
    private static final class Reader {
        final int[] tape;
        int size;
        /** The word or sign that is looked at: its sort, its first byte, the place behind it. */
        int sort;
        int start;
        int end;
        /** If it is a word right behind another one. */
        boolean tight;
        int open;
        int nots;
        int key;
        int leafCount;
        final int[] code;
        int length;

        Reader() {
            tape = new int[TAPE_ROOM];
            code = new int[TAPE_ROOM];
        }

        void addBytes(int v) {
            for (int shift = 24; shift >= 0 && size < TAPE_ROOM; shift -= 8) {
                tape[size] = v >>> shift & 255;
                size++;
            }
        }

        /** The place of the fault, or -1: the tape is a text, its key and code stand here. */
        int fault() {
            begin();
            key = keyHere();
            if (key < 0) {
                return start;
            }
            next();
            return part(LOOSEST) && sort == END ? -1 : start;
        }

        void begin() {
            sort = END;
            end = 0;
            open = 0;
            nots = 0;
            leafCount = 0;
            length = 0;
            next();
        }

        void next() {
            int i = end;
            while (i < size && byteAt(i) == ' ') {
                i++;
            }
            boolean behindWord = i == end && isWord(sort);
            start = i;
            sort = sortAt(i);
            tight = behindWord && isWord(sort);
            end = sort == END ? i : i + 1;
            while (isWord(sort) && end < size && sortAt(end) == sort) {
                end++;
            }
        }

        static boolean isWord(int sort) {
            return sort == LETTERS || sort == DIGITS;
        }

        int sortAt(int place) {
            if (place < 0 || place >= size || place >= TAPE_ROOM) {
                return END;
            }
            int b = tape[place];
            if (b >= 'a' && b <= 'z') {
                return LETTERS;
            }
            return b >= '0' && b <= '9' ? DIGITS : SIGN;
        }

        int byteAt(int place) {
            return place >= 0 && place < size && place < TAPE_ROOM ? tape[place] : -1;
        }

        int keyHere() {
            if (sort != LETTERS) {
                return -1;
            }
            if (isHere("dig")) {
                return DIG;
            }
            if (isHere("fee")) {
                return FEE;
            }
            return isHere("fine") ? FINE : -1;
        }

        boolean isHere(String word) {
            if (end - start != word.length()) {
                return false;
            }
            for (int i = 0; i < word.length(); i++) {
                if (byteAt(start + i) != word.charAt(i)) {
                    return false;
                }
            }
            return true;
        }

        /** Reads a part that binds as a level does or closer; if there is none, the fault is at start. */
        private boolean part(int level) {
            if (level >= PIECE) {
                return piece();
            }
            if (!part(level + 1)) {
                return false;
            }
            int most = level == TEST ? 1 : TAPE_ROOM;
            for (int i = 0; i < most && isSignOf(level); i++) {
                int sign = byteAt(start);
                next();
                if (!part(level + 1)) {
                    return false;
                }
                put(SIGNED + sign);
            }
            return true;
        }

        private boolean piece() {
            if (isWord(sort)) {
                return leaf();
            }
            int sign = byteAt(start);
            if (sign == '!') {
                return not();
            }
            return sign == '(' && bracket();
        }

        private boolean not() {
            if (nots >= MOST_OPEN) {
                return false;
            }
            nots++;
            next();
            if (!piece()) {
                return false;
            }
            nots--;
            put(SIGNED + '!');
            return true;
        }

        private boolean bracket() {
            if (open >= MOST_OPEN) {
                return false;
            }
            open++;
            next();
            if (!part(LOOSEST) || byteAt(start) != ')') {
                return false;
            }
            open--;
            next();
            return true;
        }

        boolean isSignOf(int level) {
            return sort == SIGN && signsOf(level).indexOf((char) byteAt(start)) >= 0;
        }

        static String signsOf(int level) {
            switch (level) {
                case LOOSEST: return "|";
                case 1: return "&";
                case TEST: return "<=>";
                case 3: return "+-";
                default: return "*/";
            }
        }

        boolean leaf() {
            int step = sort == DIGITS ? number() : name();
            if (tight || step < 0) {
                return false;
            }
            put(step);
            leafCount++;
            next();
            return true;
        }

        /** The number that is looked at, or -1: it is too long. */
        int number() {
            if (end - start > MOST_DIGITS) {
                return -1;
            }
            int v = 0;
            for (int i = start; i < end; i++) {
                v = v * 10 + byteAt(i) - '0';
            }
            return v;
        }

        /** The step for the name that is looked at, or -1: the key has no such name. */
        int name() {
            int place = end - start == 1 ? namesOf(key).indexOf((char) byteAt(start)) : -1;
            return place < 0 ? -1 : NAMED + place;
        }

        static String namesOf(int key) {
            switch (key) {
                case DIG: return "fran";
                case FEE: return "mh";
                default: return "fc";
            }
        }

        void put(int step) {
            if (length < TAPE_ROOM) {
                code[length] = step;
                length++;
            }
        }
    }

    /** A row of shorts or floats; of floats a place that is NONE is no number. */
    private static final class Sheet {
        final int[] places;
        int sort;
        int size;

        Sheet() {
            places = new int[MOST_PLACES];
            sort = MISSING;
        }

        void become(int newSort, int newSize) {
            sort = newSort;
            size = newSize;
            for (int i = 0; i < MOST_PLACES; i++) {
                places[i] = 0;
            }
        }

        void becomeAs(Sheet other) {
            sort = other.sort;
            size = other.size;
            System.arraycopy(other.places, 0, places, 0, MOST_PLACES);
        }

        boolean isMissing() {
            return sort == MISSING;
        }

        boolean hasPlace(int place) {
            return place >= 0 && place < size;
        }

        /** If so many places from one on are there; none may stand right behind the last. */
        boolean hasPlaces(int place, int many) {
            return place >= 0 && many >= 0 && place <= size && many <= size - place;
        }

        boolean isNumber(int place) {
            return hasPlace(place) && places[place] != NONE;
        }
    }

    /** What was laid by: nothing, a digger, a sheet or a number. */
    private static final class Slot {
        int thing;
        int number;
        final Digger digger;
        final Sheet row;

        Slot() {
            digger = new Digger();
            row = new Sheet();
        }
    }
}
