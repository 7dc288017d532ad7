import java.lang.reflect.InvocationTargetException;
import java.lang.reflect.Method;
import java.lang.reflect.Modifier;
import java.util.ArrayList;
import java.util.Arrays;
import java.util.List;
import java.util.Random;
import java.util.function.Supplier;

/**
 * Rule 7 of LANGUAGE.md: no call throws or fails to end, for any arguments in any state. What is
 * answered is asked by the other tests; here calls come in any number, far above 512 too.
 */
public final class AnyArgumentsTest {
    private static final Check CHECK = new Check();
    private static final int[] NUMBERS = {
        Integer.MIN_VALUE, Integer.MIN_VALUE + 1, -100001, -61, -3, -2, -1, 0, 1, 2, 3, 4, 5, 6, 7, 8, 23, 24,
        59, 60, 61, 1000, 1001, 100000, 100001, 1 << 30, Integer.MAX_VALUE - 1, Integer.MAX_VALUE,
    };
    private static final List<Method> FACE = face();

    public static void main(String[] args) throws IllegalAccessException {
        CHECK.due("methods", FACE.size(), 25);
        everyCombination("a new desk", SamplingDesk::new);
        everyCombination("some of all", Desks::some);
        everyCombination("a full desk", Desks::full);
        callsWithoutEnd();
        CHECK.finish("AnyArgumentsTest");
    }

    private static List<Method> face() {
        List<Method> face = new ArrayList<>();
        for (Method method : SamplingDesk.class.getDeclaredMethods()) {
            if (Modifier.isPublic(method.getModifiers())) {
                face.add(method);
            }
        }
        face.sort((a, b) -> a.getName().compareTo(b.getName()));
        return face;
    }

    /** Each method on one desk with all combinations of the numbers, one behind the other. */
    private static void everyCombination(String name, Supplier<SamplingDesk> maker) throws IllegalAccessException {
        for (Method method : FACE) {
            SamplingDesk desk = maker.get();
            int combinations = 1;
            for (int i = 0; i < method.getParameterCount(); i++) {
                combinations *= NUMBERS.length;
            }
            String thrown = "";
            for (int c = 0; c < combinations && thrown.isEmpty(); c++) {
                Object[] arguments = new Object[method.getParameterCount()];
                int rest = c;
                for (int i = 0; i < arguments.length; i++) {
                    arguments[i] = NUMBERS[rest % NUMBERS.length];
                    rest /= NUMBERS.length;
                }
                thrown = thrownBy(desk, method, arguments);
            }
            CHECK.due(method.getName() + " of " + name, thrown, "");
        }
    }

    /** Any calls on one desk, mostly with small numbers, so that all its places get taken. */
    private static void callsWithoutEnd() throws IllegalAccessException {
        Random random = new Random(11);
        int mostLots = 0;
        for (int run = 0; run < 20; run++) {
            SamplingDesk desk = new SamplingDesk();
            String thrown = "";
            for (int call = 0; call < 20000 && thrown.isEmpty(); call++) {
                Method method = FACE.get(random.nextInt(FACE.size()));
                Object[] arguments = new Object[method.getParameterCount()];
                for (int i = 0; i < arguments.length; i++) {
                    arguments[i] = anyNumber(random);
                }
                thrown = thrownBy(desk, method, arguments);
            }
            CHECK.due("calls of run " + run, thrown, "");
            CHECK.due("all places for plans of run " + run, desk.count(0), 24);
            CHECK.due("all places for suppliers of run " + run, desk.count(2), 8);
            mostLots = Math.max(mostLots, desk.count(3));
        }
        CHECK.due("all places for lots of some run", mostLots, 60);
    }

    private static int anyNumber(Random random) {
        switch (random.nextInt(40)) {
            case 0:
                return NUMBERS[random.nextInt(NUMBERS.length)];
            case 1, 2, 3, 4, 5, 6, 7, 8, 9:
                return random.nextInt(62);
            default:
                return random.nextInt(12) - 1;
        }
    }

    private static String thrownBy(SamplingDesk desk, Method method, Object[] arguments)
            throws IllegalAccessException {
        try {
            method.invoke(desk, arguments);
            return "";
        } catch (InvocationTargetException e) {
            return method.getName() + Arrays.toString(arguments) + " threw " + e.getCause();
        }
    }
}
