import java.util.ArrayList;
import java.util.HashMap;
import java.util.List;
import java.util.Map;

/**
 * The document once more, written in another way: kinds are classes under one another, what is thought is done on a
 * copy, a text is worked out from its signs each time, and its fault is found by a walk over them without a tree.
 */
final class Model {
    static final int BAD = Due.BAD, NO = Due.NO, FULL = Due.FULL, NONE = Due.NONE;
    static final int NOTHING = Due.NOTHING, KIND = Due.KIND, INDEX = Due.INDEX, SIZE = Due.SIZE;

    static class Member {
        int force, candles, branch, earth;

        int digs(State s) {
            return s.plain(this);
        }

        int burns(State s) {
            return 1;
        }

        int worth() {
            return candles;
        }
    }

    static class Son extends Member {
        int digs(State s) {
            return super.digs(s) + 1;
        }

        int burns(State s) {
            return super.burns(s) + 1;
        }

        int worth() {
            return super.worth() + force;
        }
    }

    static class Boy extends Son {
        int digs(State s) {
            return s.ahead(branch) > 40 ? super.digs(s) / 2 : super.digs(s);
        }

        int burns(State s) {
            return s.ahead(branch) > 40 ? 0 : super.burns(s);
        }

        int worth() {
            return super.worth() * 2;
        }
    }

    static class Uncle extends Member {
        int digs(State s) {
            return super.digs(s) / 2;
        }

        int burns(State s) {
            return super.burns(s) - 1;
        }

        int worth() {
            return 99 - super.worth();
        }
    }

    static class Lodger extends Uncle {
        int digs(State s) {
            int sum = super.digs(s);
            for (Member m : s.members) {
                if (m != this && m instanceof Uncle && m.candles > 0 && m.branch == branch) {
                    sum += 2;
                }
            }
            return sum;
        }

        int burns(State s) {
            return super.burns(s) + 3;
        }

        int worth() {
            return super.worth() / 2;
        }
    }

    static class Nun extends Member {
        int digs(State s) {
            return 1;
        }

        int burns(State s) {
            return 2;
        }

        int worth() {
            return earth / 10;
        }
    }

    static final Class<?>[] KINDS = {Member.class, Son.class, Uncle.class, Boy.class, Lodger.class, Nun.class};

    static Member made(int kind) {
        switch (kind) {
            case 1: return new Son();
            case 2: return new Uncle();
            case 3: return new Boy();
            case 4: return new Lodger();
            case 5: return new Nun();
            default: return new Member();
        }
    }

    static int kindOf(Member m) {
        for (int k = 0; k < 6; k++) {
            if (m.getClass() == KINDS[k]) {
                return k;
            }
        }
        return -1;
    }

    static Member copyOf(Member m, int kind) {
        Member c = made(kind);
        c.force = m.force;
        c.candles = m.candles;
        c.branch = m.branch;
        c.earth = m.earth;
        return c;
    }

    static final class State {
        int[] dug = new int[4], rock = {10, 10, 10, 10}, warder = new int[4];
        List<Member> members = new ArrayList<>();
        List<List<String>> texts = new ArrayList<>();
        int step = 3, fall, met, falls, night, z = 1;

        State copy() {
            State s = new State();
            s.dug = dug.clone();
            s.rock = rock.clone();
            s.warder = warder.clone();
            for (Member m : members) {
                s.members.add(copyOf(m, kindOf(m)));
            }
            s.texts.addAll(texts);
            s.step = step;
            s.fall = fall;
            s.met = met;
            s.falls = falls;
            s.night = night;
            s.z = z;
            return s;
        }

        int ahead(int branch) {
            return dug[branch] - warder[branch];
        }

        int law(String key) {
            for (int i = texts.size() - 1; i >= 0; i--) {
                if (texts.get(i).get(0).equals(key)) {
                    return i;
                }
            }
            return NONE;
        }

        int plain(Member m) {
            int v = m.force - rock[m.branch];
            int law = law("dig");
            if (law != NONE) {
                int lit = (int) members.stream().filter(o -> o.branch == m.branch && o.candles > 0).count();
                v = new Sum(texts.get(law), Map.of("f", m.force, "r", rock[m.branch], "a", ahead(m.branch), "n", lit)).value();
            }
            return Math.max(0, Math.min(99, v));
        }

        int fee() {
            int law = law("fee");
            return law == NONE ? met : new Sum(texts.get(law), Map.of("m", met, "h", hill())).value();
        }

        int fine(Member m) {
            int law = law("fine");
            return law == NONE ? m.candles : new Sum(texts.get(law), Map.of("f", m.force, "c", m.candles)).value();
        }

        int draw() {
            z = (int) ((long) z * 1103515245L + 12345L);
            return (int) ((z & 0xffffffffL) / 256);
        }

        void night() {
            for (Member m : members) {
                if (m.candles == 0) {
                    continue;
                }
                int digs = m.digs(this), burns = m.burns(this), before = dug[m.branch];
                dug[m.branch] = Math.min(999, before + digs);
                m.earth = Math.min(9999, m.earth + dug[m.branch] - before);
                m.candles = Math.max(0, m.candles - burns);
            }
            for (int b = 0; b < 4; b++) {
                warder[b] = Math.min(dug[b], warder[b] + step);
                boolean any = false;
                if (warder[b] == dug[b]) {
                    for (Member m : members) {
                        if (m.branch == b) {
                            any = true;
                            m.branch = b == 3 ? 0 : b + 1;
                        }
                    }
                }
                met += any ? 1 : 0;
            }
            if (draw() % 100 < fall) {
                int b = draw() % 4;
                rock[b] = draw() % 100;
                falls++;
            }
            night++;
        }

        State behind(int n) {
            State s = copy();
            for (int i = 0; i < n; i++) {
                s.night();
            }
            return s;
        }

        int hill() {
            return members.stream().mapToInt(m -> m.earth).sum();
        }

        int dugOfAll() {
            return dug[0] + dug[1] + dug[2] + dug[3];
        }
    }

    /** Works out a text from its words and signs. */
    static final class Sum {
        private static final String[] LEVELS = {"|", "&", "<=>", "+-", "*/"};
        private final List<String> words;
        private final Map<String, Integer> names;
        private int at = 1;

        Sum(List<String> words, Map<String, Integer> names) {
            this.words = words;
            this.names = names;
        }

        int value() {
            return level(0);
        }

        private String word() {
            return at < words.size() ? words.get(at) : "end";
        }

        private int level(int l) {
            if (l == LEVELS.length) {
                return piece();
            }
            int v = level(l + 1);
            while (LEVELS[l].contains(word())) {
                String sign = words.get(at++);
                v = by(sign, v, level(l + 1));
            }
            return v;
        }

        private static int by(String sign, int a, int b) {
            switch (sign) {
                case "|": return a != 0 | b != 0 ? 1 : 0;
                case "&": return a != 0 & b != 0 ? 1 : 0;
                case "<": return a < b ? 1 : 0;
                case "=": return a == b ? 1 : 0;
                case ">": return a > b ? 1 : 0;
                case "+": return (int) ((long) a + b);
                case "-": return (int) ((long) a - b);
                case "*": return (int) ((long) a * b);
                default: return b == 0 ? 0 : (int) ((long) a / b);
            }
        }

        private int piece() {
            String w = words.get(at++);
            if (w.equals("!")) {
                return piece() == 0 ? 1 : 0;
            }
            if (w.equals("(")) {
                int v = level(0);
                at++;
                return v;
            }
            return names.containsKey(w) ? names.get(w) : Integer.parseInt(w);
        }
    }

    /** The fault of a tape, or -1; its words and signs go to the list. */
    static int fault(int[] tape, List<String> words) {
        String names = "";
        boolean operand = true;
        // for each bracket that is open: if a test stood ahead of it there, how many nots it is within
        List<Boolean> tested = new ArrayList<>(List.of(false));
        List<Integer> nots = new ArrayList<>(List.of(0));
        int pending = 0;
        int i = 0;
        boolean wordBefore = false;
        while (i < tape.length) {
            if (tape[i] == 32) {
                i++;
                wordBefore = false;
                continue;
            }
            int start = i;
            boolean letters = isLetter(tape[i]), digits = isDigit(tape[i]);
            do {
                i++;
            } while (i < tape.length && (letters && isLetter(tape[i]) || digits && isDigit(tape[i])));
            StringBuilder b = new StringBuilder();
            for (int k = start; k < i; k++) {
                b.append((char) tape[k]);
            }
            String w = b.toString();
            if (wordBefore && (letters || digits)) {
                return start;
            }
            wordBefore = letters || digits;
            int top = tested.size() - 1;
            if (words.isEmpty()) {
                names = w.equals("dig") ? "fran" : w.equals("fee") ? "mh" : w.equals("fine") ? "fc" : "";
                if (names.isEmpty()) {
                    return start;
                }
            } else if (operand) {
                if (digits && w.length() <= 4 || letters && w.length() == 1 && names.contains(w)) {
                    operand = false;
                    pending = 0;
                } else if (w.equals("!") && nots.get(top) + pending < 8) {
                    pending++;
                } else if (w.equals("(") && top < 8) {
                    tested.add(false);
                    nots.add(nots.get(top) + pending);
                    pending = 0;
                } else {
                    return start;
                }
            } else if (w.equals(")") && top > 0) {
                tested.remove(top);
                nots.remove(top);
            } else if ("+-*/".contains(w)) {
                operand = true;
            } else if ("|&".contains(w)) {
                operand = true;
                tested.set(top, false);
            } else if ("<=>".contains(w) && !tested.get(top)) {
                operand = true;
                tested.set(top, true);
            } else {
                return start;
            }
            words.add(w);
        }
        return operand || tested.size() > 1 ? tape.length : -1;
    }

    static boolean isLetter(int b) {
        return b >= 97 && b <= 122;
    }

    static boolean isDigit(int b) {
        return b >= 48 && b <= 57;
    }

    State now = new State();
    State image;
    final List<Integer> tape = new ArrayList<>();
    final List<Integer> waiting = new ArrayList<>();
    /** A short row is Short[], a float row is Float[] with NaN where there is no number. */
    final Object[] sheets = new Object[4];
    final Object[] slots = new Object[5];

    private static boolean in(int v, int least, int most) {
        return least <= v && v <= most;
    }

    private boolean isDigger(int d) {
        return d >= 0 && d < now.members.size();
    }

    int call(String name, int[] a) {
        switch (name) {
            case "digger": return digger(a);
            case "told": return told(a[0], a[1]);
            case "as": return !isDigger(a[0]) || !in(a[1], 0, 5) ? BAD
                : KINDS[a[1]].isInstance(now.members.get(a[0])) ? now.members.get(a[0]).force : KIND;
            case "turns": return turns(a[0], a[1]);
            case "set": return set(a[0], a[1], a[2]);
            case "sends": return sends(a[0], a[1]);
            case "branch": return branch(a[0], a[1], a[2]);
            case "branchOf": return branchOf(a[0], a[1]);
            case "rule": return rule(a[0], a[1]);
            case "deal": return deal(a[0]);
            case "seed": return seed(a[0]);
            case "nights": return nights(a[0]);
            case "below": return below(a[0]);
            case "behind": return behind(a[0], a[1]);
            case "reaches": return reaches(a[0], a[1]);
            case "leaves": return leaves(a[0]);
            case "light": return light(a[0], a[1]);
            case "wax": return wax(a[0], a[1], a[2]);
            case "sent": return best(a, 4);
            case "becomes": return best(a, 6);
            case "like": return like(a[0], a[1]);
            case "fee": return now.fee();
            case "fine": return isDigger(a[0]) ? now.fine(now.members.get(a[0])) : BAD;
            case "feed": return feed(a);
            case "trim": return trim(a[0]);
            case "text": return text();
            case "textTold": return textTold(a[0], a[1]);
            case "why": return in(a[0], 0, 2) ? now.law(new String[] {"dig", "fee", "fine"}[a[0]]) : BAD;
            case "sheet": return sheet(a[0], a[1], a[2]);
            case "mark": return mark(a[0], a[1], a[2]);
            case "pour": return pour(a[0]);
            case "reads": return reads(a[0]);
            case "copy": return copy(a);
            case "lay": return lay(a[0], a[1], a[2]);
            case "ask": return ask(a[0], a[1]);
            case "item": return item(a[0], a[1]);
            case "rest": return rest(a[0], a[1]);
            case "tell": return tell(a[0]);
            case "check": return check(a[0]);
            case "keep":
                image = now.copy();
                return image.members.size();
            case "back":
                if (image == null) {
                    return NO;
                }
                now = image.copy();
                return now.members.size();
            default: return count(a[0]);
        }
    }

    private int digger(int[] a) {
        if (!in(a[0], 0, 5) || !in(a[1], 0, 99) || !in(a[2], 0, 99) || !in(a[3], 0, 3)) {
            return BAD;
        }
        if (now.members.size() == 10) {
            return FULL;
        }
        Member m = made(a[0]);
        m.force = a[1];
        m.candles = a[2];
        m.branch = a[3];
        now.members.add(m);
        return now.members.size() - 1;
    }

    private int told(int d, int what) {
        if (!isDigger(d) || !in(what, 0, 7)) {
            return BAD;
        }
        Member m = now.members.get(d);
        return new int[] {kindOf(m), m.force, m.candles, m.branch, m.earth, m.digs(now), m.burns(now), m.worth()}[what];
    }

    private int turns(int d, int kind) {
        if (!isDigger(d) || !in(kind, 0, 5)) {
            return BAD;
        }
        Member m = now.members.get(d);
        now.members.set(d, copyOf(m, kind));
        return kindOf(m);
    }

    private int set(int d, int what, int v) {
        if (!isDigger(d) || !in(what, 1, 2) || !in(v, 0, 99)) {
            return BAD;
        }
        Member m = now.members.get(d);
        int was = what == 1 ? m.force : m.candles;
        m.force = what == 1 ? v : m.force;
        m.candles = what == 2 ? v : m.candles;
        return was;
    }

    private int sends(int d, int b) {
        if (!isDigger(d) || !in(b, 0, 3)) {
            return BAD;
        }
        int was = now.members.get(d).branch;
        now.members.get(d).branch = b;
        return was;
    }

    private int branch(int b, int what, int v) {
        if (!in(b, 0, 3) || !in(what, 0, 2) || !in(v, 0, what == 1 ? 99 : 999)) {
            return BAD;
        }
        if (what == 0 && v < now.warder[b] || what == 2 && v > now.dug[b]) {
            return BAD;
        }
        int[] row = what == 0 ? now.dug : what == 1 ? now.rock : now.warder;
        int was = row[b];
        row[b] = v;
        return was;
    }

    private int branchOf(int b, int what) {
        if (!in(b, 0, 3) || !in(what, 0, 5)) {
            return BAD;
        }
        int set = 0, sum = 0;
        for (int i = 0; i < now.members.size(); i++) {
            Member m = now.members.get(i);
            if (m.branch == b) {
                set += 1 << i;
                sum += m.candles > 0 ? m.digs(now) : 0;
            }
        }
        return new int[] {now.dug[b], now.rock[b], now.warder[b], now.ahead(b), set, sum}[what];
    }

    private int rule(int what, int v) {
        if (!in(what, 0, 1) || !in(v, 0, 99 + what)) {
            return BAD;
        }
        int was = what == 0 ? now.step : now.fall;
        now.step = what == 0 ? v : now.step;
        now.fall = what == 1 ? v : now.fall;
        return was;
    }

    private int deal(int n) {
        if (!in(n, 1, 10)) {
            return BAD;
        }
        int came = 0;
        while (came < n && now.members.size() < 10) {
            Member m = made(now.draw() % 6);
            m.force = now.draw() % 40 + 10;
            m.candles = now.draw() % 60 + 5;
            m.branch = now.draw() % 4;
            now.members.add(m);
            came++;
        }
        return came;
    }

    private int seed(int v) {
        int was = now.z;
        now.z = v;
        return was;
    }

    private int nights(int n) {
        if (!in(n, 1, 100)) {
            return BAD;
        }
        int before = now.hill();
        for (int i = 0; i < n && now.night < 9999; i++) {
            now.night();
        }
        return now.hill() - before;
    }

    private int below(int what) {
        if (!in(what, 0, 5)) {
            return BAD;
        }
        int candles = 0, set = 0, front = 3;
        for (Member m : now.members) {
            candles += m.candles;
            set |= 1 << m.branch;
        }
        for (int b = 2; b >= 0; b--) {
            front = now.dug[b] >= now.dug[front] ? b : front;
        }
        return new int[] {now.met, now.falls, now.hill(), candles, set, front}[what];
    }

    private int behind(int n, int what) {
        if (!in(n, 0, 100) || !in(what, 0, 6)) {
            return BAD;
        }
        State s = now.behind(n);
        return new int[] {s.met, s.falls, s.hill(), s.dug[0], s.dug[1], s.dug[2], s.dug[3]}[what];
    }

    private int reaches(int b, int v) {
        if (!in(b, 0, 3) || !in(v, 0, 999)) {
            return BAD;
        }
        State s = now.copy();
        int n = 0;
        while (n <= 200 && s.dug[b] < v) {
            s.night();
            n++;
        }
        return n <= 200 ? n : NONE;
    }

    private int leaves(int d) {
        if (!isDigger(d)) {
            return BAD;
        }
        State s = now.copy();
        for (int n = 1; n <= 200; n++) {
            s.night();
            if (s.members.get(d).branch != now.members.get(d).branch) {
                return n;
            }
        }
        return NONE;
    }

    private int light(int n, int v) {
        if (!in(n, 0, 10) || !in(v, 0, 9999)) {
            return BAD;
        }
        int best = NONE;
        for (int set = (1 << now.members.size()) - 1; set >= 0; set--) {
            if (best != NONE && Integer.bitCount(set) > Integer.bitCount(best)) {
                continue;
            }
            State s = now.copy();
            for (int i = 0; i < s.members.size(); i++) {
                s.members.get(i).candles *= set >> i & 1;
            }
            best = s.behind(n).hill() >= v ? set : best;
        }
        return best;
    }

    private int wax(int d, int n, int v) {
        if (!isDigger(d) || !in(n, 0, 30) || !in(v, 0, 9999)) {
            return BAD;
        }
        int best = NONE;
        for (int candles = 99; candles >= 0; candles--) {
            State s = now.copy();
            s.members.get(d).candles = candles;
            best = s.behind(n).members.get(d).earth >= v ? candles : best;
        }
        return best;
    }

    private int best(int[] a, int many) {
        if (!isDigger(a[0]) || !in(a[1], 1, 60) || !in(a[2], 0, 1)) {
            return BAD;
        }
        int[] earth = new int[many];
        int best = many - 1;
        for (int k = many - 1; k >= 0; k--) {
            State s = now.copy();
            if (many == 4) {
                s.members.get(a[0]).branch = k;
            } else {
                s.members.set(a[0], copyOf(s.members.get(a[0]), k));
            }
            earth[k] = s.behind(a[1]).members.get(a[0]).earth;
            best = earth[k] >= earth[best] ? k : best;
        }
        return a[2] == 0 ? best : earth[best];
    }

    private int like(int sheet, int what) {
        if (!in(sheet, 0, 3) || !in(what, 0, 1)) {
            return BAD;
        }
        if (sheets[sheet] == null) {
            return NOTHING;
        }
        int[] sums = new int[4];
        int best = 3;
        for (int b = 3; b >= 0; b--) {
            for (int k = 0; k < places(sheets[sheet]); k++) {
                int v = place(sheets[sheet], k);
                sums[b] += v == NONE ? 0 : Math.abs(now.behind(k).dug[b] - v);
            }
            best = sums[b] <= sums[best] ? b : best;
        }
        return what == 0 ? best : sums[best];
    }

    private int feed(int[] a) {
        if (tape.size() > 84) {
            return FULL;
        }
        for (int v : a) {
            for (int k = 3; k >= 0; k--) {
                tape.add(v >> 8 * k & 255);
            }
        }
        return tape.size();
    }

    private int trim(int n) {
        if (!in(n, 0, tape.size())) {
            return BAD;
        }
        tape.subList(n, tape.size()).clear();
        return n;
    }

    private int text() {
        List<String> words = new ArrayList<>();
        int fault = fault(tape.stream().mapToInt(v -> v).toArray(), words);
        tape.clear();
        if (fault >= 0) {
            return -100 - fault;
        }
        if (now.texts.size() == 14) {
            return FULL;
        }
        now.texts.add(words);
        return now.texts.size() - 1;
    }

    private int textTold(int t, int what) {
        if (!in(t, 0, now.texts.size() - 1) || !in(what, 0, 1)) {
            return BAD;
        }
        List<String> words = now.texts.get(t);
        Map<String, Integer> keys = new HashMap<>(Map.of("dig", 0, "fee", 1, "fine", 2));
        int leaves = 0;
        for (String w : words.subList(1, words.size())) {
            leaves += isLetter(w.charAt(0)) || isDigit(w.charAt(0)) ? 1 : 0;
        }
        return what == 0 ? keys.get(words.get(0)) : leaves;
    }

    private static int places(Object sheet) {
        return sheet instanceof short[] ? ((short[]) sheet).length : ((float[]) sheet).length;
    }

    private static int place(Object sheet, int k) {
        if (sheet instanceof short[]) {
            return ((short[]) sheet)[k];
        }
        float f = ((float[]) sheet)[k];
        return Float.isNaN(f) ? NONE : (int) f;
    }

    private int sheet(int sheet, int sort, int n) {
        if (!in(sheet, 0, 3) || !in(sort, -1, 1) || sort != -1 && n > 24) {
            return BAD;
        }
        if (sort != -1 && n < 0) {
            return SIZE;
        }
        sheets[sheet] = sort == -1 ? null : sort == 0 ? new short[n] : new float[n];
        return sort == -1 ? 0 : n;
    }

    private int mark(int sheet, int place, int v) {
        if (!in(sheet, 0, 3)) {
            return BAD;
        }
        if (sheets[sheet] == null) {
            return NOTHING;
        }
        if (!in(place, 0, places(sheets[sheet]) - 1)) {
            return INDEX;
        }
        if (sheets[sheet] instanceof short[]) {
            if (v == NONE) {
                return KIND;
            }
            ((short[]) sheets[sheet])[place] = (short) v;
        } else {
            if (v != NONE && !in(v, -99999, 99999)) {
                return BAD;
            }
            ((float[]) sheets[sheet])[place] = v == NONE ? Float.NaN : v;
        }
        return 1;
    }

    private int pour(int sheet) {
        if (!in(sheet, 0, 3)) {
            return BAD;
        }
        if (sheets[sheet] == null) {
            return NOTHING;
        }
        int otherwise = 0;
        for (int i = 0; i < now.members.size(); i++) {
            Member m = now.members.get(i);
            int was = m.candles;
            if (i < places(sheets[sheet]) && place(sheets[sheet], i) != NONE) {
                m.candles = Math.max(0, Math.min(99, place(sheets[sheet], i)));
            }
            otherwise += m.candles != was ? 1 : 0;
        }
        return otherwise;
    }

    private int reads(int sheet) {
        if (!in(sheet, 0, 3)) {
            return BAD;
        }
        if (sheets[sheet] == null) {
            return NOTHING;
        }
        for (int i = 0; i < places(sheets[sheet]); i++) {
            int v = place(sheets[sheet], i);
            boolean same = isDigger(i) && now.members.get(i).branch == v;
            if (v != NONE && !same) {
                return i;
            }
        }
        return NONE;
    }

    /** As the machine does it itself, which is what the findings are told by. */
    private int copy(int[] a) {
        if (!in(a[0], 0, 3) || !in(a[2], 0, 3)) {
            return BAD;
        }
        try {
            System.arraycopy(sheets[a[0]], a[1], sheets[a[2]], a[3], a[4]);
            return a[4];
        } catch (NullPointerException e) {
            return NOTHING;
        } catch (ArrayStoreException e) {
            return KIND;
        } catch (IndexOutOfBoundsException e) {
            return INDEX;
        }
    }

    private int lay(int slot, int thing, int k) {
        if (!in(slot, 0, 4) || !in(thing, 0, 3) || thing == 1 && !isDigger(k) || thing == 2 && !in(k, 0, 3)) {
            return BAD;
        }
        Object laid = null;
        if (thing == 1) {
            laid = copyOf(now.members.get(k), kindOf(now.members.get(k)));
        } else if (thing == 2) {
            if (sheets[k] == null) {
                return NOTHING;
            }
            laid = sheets[k] instanceof short[] ? ((short[]) sheets[k]).clone() : ((float[]) sheets[k]).clone();
        } else if (thing == 3) {
            laid = k;
        }
        Object was = slots[slot];
        slots[slot] = laid;
        return was == null ? 0 : was instanceof Member ? 1 : was instanceof Integer ? 3 : 2;
    }

    private int ask(int slot, int kind) {
        if (!in(slot, 0, 4) || !in(kind, 0, 5)) {
            return BAD;
        }
        if (slots[slot] == null) {
            return NOTHING;
        }
        return KINDS[kind].isInstance(slots[slot]) ? ((Member) slots[slot]).worth() : KIND;
    }

    private int item(int slot, int place) {
        if (!in(slot, 0, 4)) {
            return BAD;
        }
        Object held = slots[slot];
        if (held == null) {
            return NOTHING;
        }
        if (held instanceof Member || held instanceof Integer) {
            return KIND;
        }
        if (!in(place, 0, places(held) - 1)) {
            return INDEX;
        }
        return place(held, place) == NONE ? KIND : place(held, place);
    }

    private int rest(int slot, int n) {
        if (!in(slot, 0, 4)) {
            return BAD;
        }
        if (slots[slot] == null) {
            return NOTHING;
        }
        if (!(slots[slot] instanceof Integer)) {
            return KIND;
        }
        return n == 0 ? NO : (int) ((long) (Integer) slots[slot] % n);
    }

    private int tell(int v) {
        if (waiting.size() == 60) {
            return FULL;
        }
        waiting.add(v);
        return waiting.size();
    }

    /** The rows that check wants for n. */
    List<Integer> rows(int n) {
        List<Integer> rows = new ArrayList<>();
        State s = image.copy();
        for (int i = 0; i < n && s.night < 9999; i++) {
            s.night();
            rows.add(s.met);
            rows.add(s.dugOfAll());
        }
        return rows;
    }

    private int check(int n) {
        List<Integer> told = new ArrayList<>(waiting);
        waiting.clear();
        if (!in(n, 1, 30)) {
            return BAD;
        }
        if (image == null) {
            return NO;
        }
        List<Integer> rows = rows(n);
        int same = 0;
        while (same < told.size() && same < rows.size() && told.get(same).equals(rows.get(same))) {
            same++;
        }
        return same == told.size() && same == rows.size() ? 0 : 1 + same;
    }

    private int count(int what) {
        if (!in(what, 0, 9)) {
            return BAD;
        }
        return new int[] {now.members.size(), now.night, now.step, now.fall, now.met, now.falls, now.texts.size(), waiting.size(),
            tape.size(), now.z}[what];
    }
}
