import java.lang.reflect.Field;
import java.lang.reflect.Method;
import java.lang.reflect.Modifier;
import java.util.Arrays;
import java.util.Set;
import java.util.TreeSet;

/** The public face, and that no call throws whatever is asked. */
public final class FaceTests {
    private static final String[] FACE = {"write 1", "wipe 0", "fault 0", "lay 0", "hedge 2", "month 2", "act 2", "pass 1",
        "plant 2", "undo 0", "behind 2", "soonest 2", "hold 3", "play 2", "kind 3", "see 3", "forget 0", "did 1", "was 1",
        "drought 4", "year 3", "keep 0", "back 0", "count 1"};
    private static final int[] ODD = {Integer.MIN_VALUE, Integer.MIN_VALUE + 1, -100, -1, 0, 1, 2, 3, 5, 6, 12, 24, 36, 40,
        99, 9999, Integer.MAX_VALUE - 1, Integer.MAX_VALUE};

    public static void main(String[] args) throws ReflectiveOperationException {
        methods();
        fields();
        odd();
        many();
        Check.end("FaceTests");
    }

    private static void methods() {
        Set<String> due = new TreeSet<>(Arrays.asList(FACE));
        Set<String> got = new TreeSet<>();
        Set<String> names = new TreeSet<>();
        for (String one : FACE) {
            names.add(one.substring(0, one.indexOf(' ')));
        }
        for (Method method : HedgeDuel.class.getDeclaredMethods()) {
            boolean isPublic = Modifier.isPublic(method.getModifiers());
            if (isPublic) {
                got.add(method.getName() + " " + method.getParameterCount());
                Check.is(method + " answers int", method.getReturnType() == int.class ? 1 : 0, 1);
            } else {
                Check.is(method + " is private", Modifier.isPrivate(method.getModifiers()) ? 1 : 0, 1);
                Check.is(method + " has a name of its own", names.contains(method.getName()) ? 1 : 0, 0);
            }
        }
        Check.is("the face " + got, got.equals(due) ? 1 : 0, 1);
        Check.is("final", Modifier.isFinal(HedgeDuel.class.getModifiers()) ? 1 : 0, 1);
        Check.is("one constructor", HedgeDuel.class.getDeclaredConstructors().length, 1);
        for (Class<?> inside : HedgeDuel.class.getDeclaredClasses()) {
            int modifiers = inside.getModifiers();
            Check.is(inside + " static", Modifier.isStatic(modifiers) ? 1 : 0, 1);
            Check.is(inside + " not public", Modifier.isPublic(modifiers) || Modifier.isProtected(modifiers) ? 1 : 0, 0);
        }
    }

    private static void fields() throws ReflectiveOperationException {
        String[] names = {"BAD", "NO", "FULL", "NONE"};
        for (int i = 0; i < names.length; i++) {
            Check.is(names[i], HedgeDuel.class.getField(names[i]).getInt(null), -1 - i);
        }
        for (Field field : HedgeDuel.class.getDeclaredFields()) {
            boolean told = Arrays.asList(names).contains(field.getName());
            Check.is(field + " is private", Modifier.isPrivate(field.getModifiers()) ? 1 : 0, told ? 0 : 1);
            if (Modifier.isStatic(field.getModifiers())) {
                Check.is(field + " is final", Modifier.isFinal(field.getModifiers()) ? 1 : 0, 1);
            }
        }
    }

    /** Every call with odd numbers in every place; what it throws would end the test. */
    private static void odd() throws ReflectiveOperationException {
        int calls = 0;
        for (Method method : HedgeDuel.class.getMethods()) {
            if (method.getDeclaringClass() != HedgeDuel.class) {
                continue;
            }
            int places = method.getParameterCount();
            HedgeDuel duel = new HedgeDuel();
            for (int i = 0; i < Math.pow(ODD.length, Math.min(places, 3)); i++) {
                Object[] numbers = new Object[places];
                for (int place = 0, rest = i; place < places; place++, rest /= ODD.length) {
                    numbers[place] = ODD[rest % ODD.length];
                }
                int answer = (int) method.invoke(duel, numbers);
                calls += answer >= HedgeDuel.NONE ? 1 : 0;
            }
        }
        Check.is("calls with odd numbers", calls > 0 ? 1 : 0, 1);
    }

    /** The dearest calls as often as an object is used for. */
    private static void many() {
        HedgeDuel duel = Check.laid("l40;h0,1,5,99;h1,1,5,99;w99;r6;");
        for (int i = 0; i < 480; i++) {
            Check.is("play of equals", duel.play(3, 0), 200);
        }
    }
}
