import java.lang.reflect.Method;
import java.lang.reflect.Modifier;
import java.util.ArrayList;
import java.util.Comparator;
import java.util.List;

/** Calls with any arguments in any state: none may throw, and a refused one changes nothing. */
public final class SafetyTest {
    private static final int RUNS = 300;
    private static final int CALLS = 512;
    private static final int[] WILD = {Integer.MIN_VALUE, Integer.MAX_VALUE, -3, -2, -1, 0, 1, 2, 9, 10, 11, 12, 20, 60, 61,
        99, 100, 159, 160, 161, 400, 401, 500, 501, 9999, 10000, 1 << 12, 0xFFF, 0xFF};
    private static final Check check = new Check();

    public static void main(String[] args) throws ReflectiveOperationException {
        List<Method> methods = new ArrayList<>();
        for (Method method : LetterDrawer.class.getDeclaredMethods()) {
            if (Modifier.isPublic(method.getModifiers())) {
                methods.add(method);
            }
        }
        methods.sort(Comparator.comparing(Method::getName));
        for (int seed = 1; seed <= RUNS; seed++) {
            play(new Dice(seed), methods);
        }
        check.end();
    }

    private static void play(Dice dice, List<Method> methods) throws ReflectiveOperationException {
        LetterDrawer x = new LetterDrawer();
        if (dice.one(2)) {
            fill(x, dice);
        }
        for (int call = 0; call < CALLS; call++) {
            Method method = methods.get(dice.below(methods.size()));
            Object[] arguments = new Object[method.getParameterCount()];
            for (int i = 0; i < arguments.length; i++) {
                arguments[i] = argument(dice, method.getParameterTypes()[i]);
            }
            int before = x.count(4);
            int answer = (Integer) method.invoke(x, arguments);
            check.holds(method.getName() + " answered " + answer, answer >= -22);
            if (answer <= -2 && answer > -20 && !method.getName().equals("lay")) {
                check.due("tape after a refused " + method.getName(), x.count(4), before);
            }
        }
    }

    private static void fill(LetterDrawer x, Dice dice) {
        for (int i = 0; i < 10; i++) {
            x.person(dice.from(1, 3), dice.below(6));
        }
        for (int i = 0; i < 12; i++) {
            x.letter(dice.below(6), dice.below(10), dice.below(10), dice.below(6));
        }
    }

    private static Object argument(Dice dice, Class<?> type) {
        if (type == boolean.class) {
            return dice.one(2);
        }
        if (type == long.class) {
            return dice.one(2) ? 0x7D616432616E7B20L : -1L << dice.below(64);
        }
        return dice.one(3) ? dice.pick(WILD) : dice.below(12);
    }
}
