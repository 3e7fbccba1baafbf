import java.lang.reflect.InvocationTargetException;
import java.lang.reflect.Method;
import java.util.ArrayList;
import java.util.HashMap;
import java.util.List;
import java.util.Map;
import java.util.Random;

/** Runs of calls by lot, the same every time, on the class and on the model: their answers are the same, and nothing throws. */
public final class ModelTest {
    private static final int RUNS = 700, CALLS = 512;
    private static final int[] EDGES = {Integer.MIN_VALUE, Integer.MAX_VALUE, -1, 0, 1, Due.NONE, Due.BAD, 100000, -100000};
    /** Calls with the ranges of their arguments; how often each comes. */
    private static final String[] KINDS = {
        "6 digger 0..5 0..99 0..99 0..3", "8 told 0..9 0..7", "3 as 0..9 0..5", "3 turns 0..9 0..5", "6 set 0..9 1..2 0..99",
        "4 sends 0..9 0..3", "8 branch 0..3 0..2 0..99", "3 branch 0..3 0..2 0..999", "6 branchOf 0..3 0..5", "3 rule 0..1 0..12",
        "2 rule 0..1 0..100", "2 deal 1..10", "1 seed -2000000000..2000000000", "8 nights 1..5", "2 nights 1..100", "6 below 0..5",
        "3 behind 0..100 0..6", "2 reaches 0..3 0..999", "2 leaves 0..9", "1 wax 0..9 0..30 0..900", "2 sent 0..9 1..60 0..1",
        "2 becomes 0..9 1..60 0..1", "2 like 0..3 0..1", "4 fee", "4 fine 0..9", "1 feed 0..2000000000 0..2000000000 0..2000000000",
        "1 trim 0..96", "1 text", "3 textTold 0..13 0..1", "3 why 0..2", "3 sheet 0..3 0..1 0..24", "1 sheet 0..3 -1..1 -3..26",
        "8 mark 0..3 0..23 0..40", "3 mark 0..3 0..23 -99999..99999", "3 pour 0..3", "3 reads 0..3", "6 copy 0..3 0..12 0..3 0..12 0..8",
        "8 lay 0..4 0..3 0..9", "6 ask 0..4 0..5", "6 item 0..4 0..12", "4 rest 0..4 -9..9", "2 tell -5..5", "1 check 1..30", "2 keep",
        "1 back", "8 count 0..9"};

    private final Map<String, Method> methods = new HashMap<>();
    private final List<String[]> wheel = new ArrayList<>();
    private final Due due = new Due("ModelTest");
    private Random lot;
    private SpoonPassage real;
    private Model model;
    private int run;
    private int made;

    public static void main(String[] args) throws Exception {
        new ModelTest().go();
    }

    private void go() throws Exception {
        for (Method m : SpoonPassage.class.getMethods()) {
            if (m.getDeclaringClass() == SpoonPassage.class) {
                methods.put(m.getName(), m);
            }
        }
        for (String kind : KINDS) {
            String[] parts = kind.split(" ");
            for (int i = 0; i < Integer.parseInt(parts[0]); i++) {
                wheel.add(parts);
            }
        }
        for (run = 0; run < RUNS && due.wrong() < 20; run++) {
            lot = new Random(run);
            real = new SpoonPassage();
            model = new Model();
            made = 0;
            while (made < CALLS && due.wrong() < 20) {
                turn();
            }
        }
        due.end();
    }

    private void turn() throws Exception {
        int which = lot.nextInt(200);
        if (which < 12) {
            tellText();
        } else if (which < 16) {
            tellRows();
        } else if (which == 16) {
            both("light", new int[] {lot.nextInt(11), lot.nextInt(lot.nextBoolean() ? 4000 : 400)});
        } else if (which == 17) {
            both("light", new int[] {edge(), edge()});
        } else if (which == 18 && lot.nextInt(20) == 0) {
            // near the last night
            for (int i = 0; i < 99; i++) {
                both("nights", new int[] {100});
            }
        } else {
            one(wheel.get(lot.nextInt(wheel.size())));
        }
    }

    private int edge() {
        return EDGES[lot.nextInt(EDGES.length)];
    }

    private void one(String[] kind) throws Exception {
        int[] args = new int[kind.length - 2];
        for (int i = 0; i < args.length; i++) {
            String[] range = kind[i + 2].split("\\.\\.");
            int least = Integer.parseInt(range[0]), most = Integer.parseInt(range[1]);
            int luck = lot.nextInt(60);
            if (luck == 0) {
                args[i] = edge();
            } else if (luck == 1) {
                args[i] = lot.nextBoolean() ? least - 1 : most + 1;
            } else {
                args[i] = (int) (least + (long) (lot.nextDouble() * ((long) most - least + 1)));
            }
        }
        both(kind[1], args);
    }

    private void both(String name, int[] args) throws Exception {
        if (made >= CALLS) {
            // what an object answers behind so many calls is free
            return;
        }
        Object[] boxed = new Object[args.length];
        StringBuilder call = new StringBuilder("run " + run + ", call " + made + ": " + name);
        for (int i = 0; i < args.length; i++) {
            boxed[i] = args[i];
            call.append(' ').append(args[i]);
        }
        made++;
        int want = model.call(name, args);
        try {
            due.is(call.toString(), (Integer) methods.get(name).invoke(real, boxed), want);
        } catch (InvocationTargetException e) {
            due.holds(call + " threw " + e.getCause(), false);
        }
    }

    private void tellText() throws Exception {
        int key = lot.nextInt(3);
        String text = new String[] {"dig", "fee", "fine"}[key] + (lot.nextInt(30) == 0 ? "" : " ")
            + sum(new String[] {"fran", "mh", "fc"}[key], lot.nextInt(6));
        if (lot.nextInt(4) == 0) {
            text = spoilt(text);
        }
        if (text.length() > 96) {
            text = text.substring(0, 96);
        }
        both("trim", new int[] {0});
        for (int i = 0; i < text.length(); i += 12) {
            both("feed", new int[] {Due.four(text, i), Due.four(text, i + 4), Due.four(text, i + 8)});
        }
        both("trim", new int[] {text.length()});
        both("text", new int[0]);
    }

    private String sum(String names, int depth) {
        int luck = lot.nextInt(10);
        if (depth == 0 || luck < 2) {
            return lot.nextInt(3) == 0 ? "" + lot.nextInt(lot.nextInt(4) == 0 ? 12000 : 60)
                : "" + names.charAt(lot.nextInt(names.length()));
        }
        if (luck == 2) {
            return "!".repeat(1 + lot.nextInt(lot.nextInt(4) == 0 ? 9 : 2)) + sum(names, 0);
        }
        if (luck == 3) {
            int deep = 1 + lot.nextInt(lot.nextInt(4) == 0 ? 9 : 2);
            return "(".repeat(deep) + sum(names, depth - 1) + ")".repeat(deep);
        }
        if (luck == 4) {
            return "!(" + sum(names, depth - 1) + ")";
        }
        String blank = lot.nextInt(6) == 0 ? " " : "";
        return sum(names, depth - 1) + blank + "+-*/+-*/<=>&|".charAt(lot.nextInt(13)) + blank + sum(names, depth - 1);
    }

    private String spoilt(String text) {
        String signs = "frandigmhc0123456789+-*/<=>&|!()  \tA\u00ff";
        int place = lot.nextInt(text.length());
        char sign = signs.charAt(lot.nextInt(signs.length()));
        switch (lot.nextInt(3)) {
            case 0: return text.substring(0, place);
            case 1: return text.substring(0, place) + sign + text.substring(place);
            default: return text.substring(0, place) + sign + text.substring(place + 1);
        }
    }

    private void tellRows() throws Exception {
        if (model.image == null) {
            return;
        }
        int n = 1 + lot.nextInt(lot.nextInt(8) == 0 ? 30 : 6);
        List<Integer> rows = model.rows(n);
        int luck = lot.nextInt(6);
        if (luck == 0) {
            rows.add(lot.nextInt(3));
        } else if (luck == 1 && !rows.isEmpty()) {
            rows.remove(rows.size() - 1);
        } else if (luck == 2 && !rows.isEmpty()) {
            int place = lot.nextInt(rows.size());
            rows.set(place, rows.get(place) + 1);
        }
        for (int v : rows) {
            both("tell", new int[] {v});
        }
        both("check", new int[] {n});
    }
}
