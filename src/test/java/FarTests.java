import java.lang.reflect.InvocationTargetException;
import java.lang.reflect.Method;
import java.util.Arrays;
import java.util.Comparator;
import java.util.List;
import java.util.Random;
import java.util.stream.Stream;

/**
 * No call throws: every method with arguments at and beyond each limit, on objects new and told, held against
 * the Model. What is chosen by chance is always the same.
 */
public final class FarTests {
    private static final int[] NEAR_AND_FAR = {Integer.MIN_VALUE, Integer.MIN_VALUE + 1, -1000000, -256, -33, -3, -2, -1, 0,
        1, 2, 3, 4, 5, 6, 7, 8, 9, 15, 16, 17, 31, 32, 33, 63, 64, 65, 99, 100, 101, 127, 128, 254, 255, 256, 257, 799, 800,
        801, 1000, 1999, 2000, 2001, 65535, 65536, 1 << 30, Integer.MAX_VALUE - 1, Integer.MAX_VALUE};
    private static final List<Method> FACE = Stream.of(TunerGame.class.getMethods())
            .filter(method -> method.getDeclaringClass() == TunerGame.class)
            .sorted(Comparator.comparing(Method::getName)).toList();
    /** An object is promised for 512 calls. */
    private static final int CALLS = 500;
    private static final int STATES = 6;
    private static final int[] SOME = {-1, 0, 1, 2, 5, 9};

    private final TunerGame x = new TunerGame();
    private final Model y = new Model();
    private final String name;
    private int calls = 0;

    private FarTests(int state) {
        name = "state " + state + ": ";
        if (state > 0) {
            tell(state);
        }
    }

    public static void main(String[] args) {
        Due.is("methods", FACE.size(), 24);
        for (int state = 0; state < STATES; state++) {
            for (Method method : FACE) {
                everyArgument(state, method);
            }
            allMethods(state);
        }
        Due.end();
    }

    /** Something of everything; with state 3 and above as many of each as can be. */
    private void tell(int state) {
        boolean full = state >= 3;
        for (int t = 0; t < (full ? 4 : 2); t++) {
            call("table", full ? 4 - t : 2);
        }
        for (int n = 0; n < (full ? 65 : 9); n++) {
            call("row", 0, n % 16, n % 3, 0, 0);
        }
        call("room", state);
        call("budget", full ? 800 : 9);
        for (int m = 0; m < (full ? 5 : 1); m++) {
            call("index", m % 2, 0, m % 2 == 0 ? 1 : -1, -1, m * 25);
        }
        for (int m = 0; m < (full ? 3 : 1); m++) {
            call("more", 64, m);
        }
        String ask = "ask share 1000 from 0 where 0 == 15 and 1 < 3 join 0 on 1 = 1 order 0;";
        feed(full ? ask.repeat(7) + "write share 1 into 0 rows 100;" : ask + "write share 1 into 1 rows 1;");
        call("read");
        for (int m = 0; m < (state == 2 ? 1 : state == 4 ? 8 : 0); m++) {
            call("play", m);
        }
        if (state == 5) {
            feed("ask share 1 from 9;");
        }
    }

    private void feed(String text) {
        for (int at = 0; at < text.length(); at += 20) {
            int[] w = new int[5];
            for (int n = 0; n < 20; n++) {
                w[n / 4] = w[n / 4] << 8 | (at + n < text.length() ? text.charAt(at + n) : ' ');
            }
            call("feed", w[0], w[1], w[2], w[3], w[4]);
        }
    }

    private void call(String method, int... arguments) {
        call(FACE.stream().filter(m -> m.getName().equals(method)).findFirst().orElseThrow(), arguments);
    }

    private void call(Method method, int... arguments) {
        calls++;
        Object[] boxed = Arrays.stream(arguments).boxed().toArray();
        String told = name + method.getName() + Arrays.toString(arguments);
        try {
            Due.is(told, number(method.invoke(x, boxed)), due(method, boxed));
        } catch (InvocationTargetException thrown) {
            Due.is(told + " threw " + thrown.getCause(), true, false);
        } catch (ReflectiveOperationException wrong) {
            throw new IllegalStateException(wrong);
        }
    }

    private long due(Method method, Object[] boxed) throws ReflectiveOperationException {
        if (method.getName().equals("place")) {
            return y.place;
        }
        return number(Model.class.getDeclaredMethod(method.getName(), method.getParameterTypes()).invoke(y, boxed));
    }

    private static long number(Object answer) {
        return answer instanceof Boolean is ? (is ? 1 : 0) : (Integer) answer;
    }

    /** Each argument goes over all numbers, the others over some; a new object when the calls of one are used up. */
    private static void everyArgument(int state, Method method) {
        int width = method.getParameterCount();
        FarTests at = new FarTests(state);
        if (width == 0) {
            at.call(method);
        }
        for (int which = 0; which < width; which++) {
            for (int far : NEAR_AND_FAR) {
                for (int other : width > 1 ? SOME : new int[] {0}) {
                    if (at.calls >= CALLS) {
                        at = new FarTests(state);
                    }
                    int[] arguments = new int[width];
                    Arrays.fill(arguments, other);
                    arguments[which] = far;
                    at.call(method, arguments);
                }
            }
        }
    }

    private static void allMethods(int state) {
        Random chance = new Random(state);
        for (int run = 0; run < 8; run++) {
            FarTests at = new FarTests(state);
            while (at.calls < CALLS) {
                Method method = FACE.get(chance.nextInt(FACE.size()));
                int[] arguments = new int[method.getParameterCount()];
                for (int n = 0; n < arguments.length; n++) {
                    arguments[n] = chance.nextBoolean() ? chance.nextInt(5) - 1 : NEAR_AND_FAR[chance.nextInt(NEAR_AND_FAR.length)];
                }
                at.call(method, arguments);
            }
        }
    }
}
