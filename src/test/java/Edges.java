import java.lang.reflect.Method;
import java.util.Arrays;
import java.util.Comparator;
import java.util.List;
import java.util.function.Supplier;

/** Runs the tests of a class, each a static method named after its promise, and counts what is not as due. */
final class Edges {
    static final int LEAST = Integer.MIN_VALUE, MOST = Integer.MAX_VALUE;

    private static Due due;
    private static String name;

    private Edges() {
    }

    /** A call on an object. */
    interface Call {
        int on(SpoonPassage x);
    }

    /** A call on an object, with a value that is tried. */
    interface CallWith {
        int on(SpoonPassage x, int v);
    }

    static boolean isTest(Method m) {
        return m.getName().startsWith("promise");
    }

    static void run(Class<?> tests) {
        due = new Due(tests.getName());
        Method[] all = tests.getDeclaredMethods();
        Arrays.sort(all, Comparator.comparing(Method::getName));
        for (Method m : all) {
            if (isTest(m)) {
                name = m.getName();
                runOne(m);
            }
        }
        due.end();
    }

    private static void runOne(Method m) {
        try {
            m.invoke(null);
        } catch (ReflectiveOperationException e) {
            due.holds(name + " threw " + e.getCause(), false);
        }
    }

    static void due(String what, int got, int want) {
        due.is(name + ": " + what, got, want);
    }

    /** The call answers as due with each of these values, and changes nothing in the scene. */
    static void refuses(int want, Supplier<SpoonPassage> scene, CallWith call, int... values) {
        for (int v : values) {
            refuses(want, scene, x -> call.on(x, v), "with " + v);
        }
    }

    static void refuses(int want, Supplier<SpoonPassage> scene, Call call, String what) {
        SpoonPassage x = scene.get();
        due(what, call.on(x), want);
        same(what + " changes nothing", x, scene.get());
    }

    /** The call, whatever it answers, changes nothing in the scene. */
    static void changesNothing(Supplier<SpoonPassage> scene, Call call) {
        SpoonPassage x = scene.get();
        call.on(x);
        same("changes nothing", x, scene.get());
    }

    /** All that can be asked of both is the same; neither is to be used then. */
    static void same(String what, SpoonPassage x, SpoonPassage y) {
        List<Integer> got = Scenes.all(x);
        List<Integer> want = Scenes.all(y);
        due(what + ": so much can be asked", got.size(), want.size());
        for (int i = 0; i < got.size() && i < want.size(); i++) {
            due(what + ": answer " + i, got.get(i), want.get(i));
        }
    }
}
