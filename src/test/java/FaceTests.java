import java.lang.reflect.Field;
import java.lang.reflect.Method;
import java.lang.reflect.Modifier;
import java.util.Arrays;
import java.util.Set;
import java.util.TreeSet;

/** The public face, and that no call throws whatever is asked. */
public final class FaceTests {
    private static final String[] FACE = {"write 1", "wipe 0", "fault 0", "lay 0", "hedge 2", "month 2", "act 2", "pass 1",
        "plant 2", "undo 0", "behind 2", "soonest 2", "hold 3", "play 2", "kind 3", "see 3", "forget 0", "did 1", "was 1",
        "drought 4", "year 3", "keep 0", "back 0", "count 1"};
    private static final int[] ODD = {Integer.MIN_VALUE, Integer.MIN_VALUE + 1, -100, -1, 0, 1, 2, 3, 4, 5, 6, 7, 8, 10, 11,
        12, 24, 25, 31, 32, 36, 37, 40, 41, 60, 61, 99, 100, 126, 127, 9999, 10000, Integer.MAX_VALUE - 1, Integer.MAX_VALUE};
    /** The first one is empty: as a new object is. */
    private static final String[] STATES = {"", "l5;h0,2,7,9;h1,3,12,4;w1;d0;r2;", "l40;h0,3,40,99;h1,1,0,0;s0,9;w99;r6;"};
    private static final int MOST_CALLS = 400;

    public static void main(String[] args) throws ReflectiveOperationException {
        methods();
        fields();
        odd();
        many();
        Check.end("FaceTests");
    }

    private static void methods() {
        Set<String> due = new TreeSet<>(Arrays.asList(FACE));
        Set<String> got = new TreeSet<>();
        Set<String> names = new TreeSet<>();
        for (String one : FACE) {
            names.add(one.substring(0, one.indexOf(' ')));
        }
        for (Method method : HedgeDuel.class.getDeclaredMethods()) {
            boolean isPublic = Modifier.isPublic(method.getModifiers());
            if (isPublic) {
                got.add(method.getName() + " " + method.getParameterCount());
                Check.is(method + " answers int", method.getReturnType() == int.class ? 1 : 0, 1);
            } else {
                Check.is(method + " is private", Modifier.isPrivate(method.getModifiers()) ? 1 : 0, 1);
                Check.is(method + " has a name of its own", names.contains(method.getName()) ? 1 : 0, 0);
            }
        }
        Check.is("the face " + got, got.equals(due) ? 1 : 0, 1);
        Check.is("final", Modifier.isFinal(HedgeDuel.class.getModifiers()) ? 1 : 0, 1);
        Check.is("one constructor", HedgeDuel.class.getDeclaredConstructors().length, 1);
        for (Class<?> inside : HedgeDuel.class.getDeclaredClasses()) {
            int modifiers = inside.getModifiers();
            Check.is(inside + " static", Modifier.isStatic(modifiers) ? 1 : 0, 1);
            Check.is(inside + " not public", Modifier.isPublic(modifiers) || Modifier.isProtected(modifiers) ? 1 : 0, 0);
        }
    }

    private static void fields() throws ReflectiveOperationException {
        String[] names = {"BAD", "NO", "FULL", "NONE"};
        for (int i = 0; i < names.length; i++) {
            Check.is(names[i], HedgeDuel.class.getField(names[i]).getInt(null), -1 - i);
        }
        for (Field field : HedgeDuel.class.getDeclaredFields()) {
            boolean told = Arrays.asList(names).contains(field.getName());
            Check.is(field + " is private", Modifier.isPrivate(field.getModifiers()) ? 1 : 0, told ? 0 : 1);
            if (Modifier.isStatic(field.getModifiers())) {
                Check.is(field + " is final", Modifier.isFinal(field.getModifiers()) ? 1 : 0, 1);
            }
        }
    }

    /** Every call with odd numbers in every place, in each state: as the model answers; what it throws ends the test. */
    private static void odd() throws ReflectiveOperationException {
        for (Method method : HedgeDuel.class.getDeclaredMethods()) {
            if (Modifier.isPublic(method.getModifiers())) {
                Method told = DuelModel.class.getDeclaredMethod(method.getName(), method.getParameterTypes());
                for (String text : STATES) {
                    odd(method, told, text);
                }
            }
        }
    }

    private static void odd(Method method, Method told, String text) throws ReflectiveOperationException {
        HedgeDuel duel = new HedgeDuel();
        DuelModel model = new DuelModel();
        long all = Math.round(Math.pow(ODD.length, method.getParameterCount()));
        for (int i = 0; i < all; i++) {
            if (i % MOST_CALLS == 0) {
                duel = new HedgeDuel();
                model = new DuelModel();
                start(duel, model, text);
            } else if (i % MOST_CALLS == MOST_CALLS / 2) {
                Check.is("pass", duel.pass(24), model.pass(24));
            }
            Object[] numbers = oddNumbers(i, method.getParameterCount());
            int due = (int) told.invoke(model, numbers);
            Check.is(method.getName() + Arrays.toString(numbers), (int) method.invoke(duel, numbers), due);
        }
    }

    private static void start(HedgeDuel duel, DuelModel model, String text) {
        for (char letter : text.toCharArray()) {
            Check.is("write", duel.write(letter), model.write(letter));
        }
        Check.is("lay", duel.lay(), model.lay());
    }

    private static Object[] oddNumbers(int row, int places) {
        Object[] numbers = new Object[places];
        int rest = row;
        for (int place = 0; place < places; place++) {
            numbers[place] = ODD[rest % ODD.length];
            rest /= ODD.length;
        }
        return numbers;
    }

    /** The dearest calls as often as an object is used for. */
    private static void many() {
        HedgeDuel duel = Check.laid("l40;h0,1,5,99;h1,1,5,99;w99;r6;");
        for (int i = 0; i < 480; i++) {
            Check.is("play of equals", duel.play(3, 0), 200);
        }
    }
}
