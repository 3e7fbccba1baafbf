import java.lang.reflect.Method;
import java.lang.reflect.Modifier;

/** Each of the promises 1 to 43 has tests of its edges, named after it, where they belong. */
public final class EdgesCoverTest {
    private static final Class<?>[] TESTS = {DiggersEdgesTest.class, NightsEdgesTest.class, WhatWillBeEdgesTest.class,
        TextsEdgesTest.class, SheetsEdgesTest.class, RowsEdgesTest.class};
    /** The first promise of each, and one behind the last of all. */
    private static final int[] FIRST = {1, 13, 15, 25, 30, 39, 44};

    public static void main(String[] args) {
        Due due = new Due("EdgesCoverTest");
        int[] tests = new int[44];
        for (int i = 0; i < TESTS.length; i++) {
            for (Method m : TESTS[i].getDeclaredMethods()) {
                if (Edges.isTest(m)) {
                    int promise = Integer.parseInt(m.getName().substring(7, 9));
                    due.holds(m + " stands where it belongs", FIRST[i] <= promise && promise < FIRST[i + 1]);
                    due.holds(m + " can be run", Modifier.isStatic(m.getModifiers()) && m.getParameterCount() == 0);
                    tests[promise]++;
                }
            }
        }
        for (int promise = 1; promise <= 43; promise++) {
            due.holds("promise " + promise + " has tests of its edges", tests[promise] > 0);
        }
        due.end();
    }
}
