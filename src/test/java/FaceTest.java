import java.lang.reflect.Constructor;
import java.lang.reflect.Field;
import java.lang.reflect.Method;
import java.lang.reflect.Modifier;
import java.util.Arrays;
import java.util.Set;
import java.util.TreeSet;

/** The class has the document's face and no other member that can be seen from outside. */
public final class FaceTest {
    private static final String CALLS = "digger/4 told/2 as/2 turns/2 set/3 sends/2 branch/3 branchOf/2 rule/2 deal/1 seed/1"
        + " nights/1 below/1 behind/2 reaches/2 leaves/1 light/2 wax/3 sent/3 becomes/3 like/2 fee/0 fine/1"
        + " feed/3 trim/1 text/0 textTold/2 why/1 sheet/3 mark/3 pour/1 reads/1 copy/5 lay/3 ask/2 item/2 rest/2"
        + " tell/1 check/1 keep/0 back/0 count/1";
    private static final String CONSTANTS = "BAD=-1000000001 NO=-1000000002 FULL=-1000000003 NONE=-1000000005"
        + " NOTHING=-1000000011 KIND=-1000000012 INDEX=-1000000013 SIZE=-1000000014";

    public static void main(String[] args) throws Exception {
        Due due = new Due("FaceTest");
        Class<?> face = SpoonPassage.class;
        due.holds("public final", Modifier.isPublic(face.getModifiers()) && Modifier.isFinal(face.getModifiers()));

        Set<String> calls = new TreeSet<>();
        for (Method m : face.getDeclaredMethods()) {
            if (m.isSynthetic()) {
                continue;
            }
            if (Modifier.isPublic(m.getModifiers())) {
                calls.add(m.getName() + "/" + m.getParameterCount());
                due.holds(m + " takes and gives ints", m.getReturnType() == int.class && !Modifier.isStatic(m.getModifiers())
                    && Arrays.stream(m.getParameterTypes()).allMatch(t -> t == int.class));
            } else {
                due.holds(m + " is private", Modifier.isPrivate(m.getModifiers()));
                due.holds(m + " bears a name of its own", !(" " + CALLS).contains(" " + m.getName() + "/"));
            }
        }
        same(due, "calls", calls, CALLS);

        Set<String> constants = new TreeSet<>();
        for (Field f : face.getDeclaredFields()) {
            if (Modifier.isPublic(f.getModifiers())) {
                constants.add(f.getName() + "=" + f.getInt(null));
            } else {
                due.holds(f + " is private", Modifier.isPrivate(f.getModifiers()));
            }
            due.holds(f + ": static is final", !Modifier.isStatic(f.getModifiers()) || Modifier.isFinal(f.getModifiers()));
        }
        same(due, "constants", constants, CONSTANTS);

        Constructor<?>[] made = face.getDeclaredConstructors();
        due.is("constructors", made.length, 1);
        due.holds("it is public and takes nothing", Modifier.isPublic(made[0].getModifiers()) && made[0].getParameterCount() == 0);
        due.end();
    }

    private static void same(Due due, String what, Set<String> got, String want) {
        Set<String> wanted = new TreeSet<>(Arrays.asList(want.split(" ")));
        due.holds(what + " are " + got + ", due " + wanted, got.equals(wanted));
    }
}
