import java.lang.reflect.InvocationTargetException;
import java.lang.reflect.Method;
import java.lang.reflect.Modifier;
import java.util.Arrays;
import java.util.Comparator;
import java.util.Random;

/** No call throws, whatever numbers it gets and however things stand; REFUSALS are counted once each. */
public final class ExtremesTest {
    private static final int[] NUMBERS = {Integer.MIN_VALUE, Integer.MIN_VALUE + 1, -1000, -65, -2, -1, 0, 0, 0, 1, 1, 1, 2, 2,
        3, 3, 4, 5, 6, 7, 8, 9, 10, 11, 23, 24, 25, 31, 32, 33, 63, 64, 65, 99, 100, 101, 255, 256, 500, 501, 998, 999, 1000,
        19999, 1 << 30, Integer.MAX_VALUE - 1, Integer.MAX_VALUE};
    private static final String[] WORDS = {"0", "1", "2", "3", " ", "not ", "or ", "apart ", "within ", "old ", "north ",
        "east ", "year ", "weight ", "99", "{", "\u00ff"};

    private static int wrong = 0;

    private ExtremesTest() {
    }

    public static void main(String[] args) throws IllegalAccessException {
        Method[] face = Arrays.stream(DeedCourt.class.getDeclaredMethods())
            .filter(m -> Modifier.isPublic(m.getModifiers()))
            .sorted(Comparator.comparing(Method::getName))
            .toArray(Method[]::new);
        for (int seed = 0; seed < 2000 && wrong < 10; seed++) {
            run(new Random(seed), face);
        }
        System.out.println("ExtremesTest: " + wrong + " wrong");
        if (wrong != 0) {
            System.exit(1);
        }
    }

    private static void run(Random random, Method[] face) throws IllegalAccessException {
        DeedCourt x = new DeedCourt();
        for (int i = 0; i < 500; i++) {
            if (random.nextInt(6) == 0) {
                feed(x, WORDS[random.nextInt(WORDS.length)]);
            }
            Method method = face[random.nextInt(face.length)];
            Object[] arguments = new Object[method.getParameterCount()];
            for (int a = 0; a < arguments.length; a++) {
                int number = NUMBERS[random.nextInt(random.nextBoolean() ? NUMBERS.length : 20)];
                Class<?> type = method.getParameterTypes()[a];
                arguments[a] = type == boolean.class ? (Object) (number > 2) : type == long.class ? (Object) (long) number : number;
            }
            int ahead = refusals(x);
            try {
                Object answer = method.invoke(x, arguments);
                int more = refusals(x) - ahead;
                boolean isRefusal = !answersAnything(method.getName())
                    && ((Number) answer).longValue() <= -2 && ((Number) answer).longValue() >= -6
                    || method.getName().equals("deed") && (Integer) answer <= -20;
                expect(more == (isRefusal ? 1 : 0), method.getName() + Arrays.toString(arguments) + " answered " + answer
                    + " and refused " + more);
            } catch (InvocationTargetException thrown) {
                expect(false, method.getName() + Arrays.toString(arguments) + " threw " + thrown.getCause());
            }
        }
    }

    private static void feed(DeedCourt x, String word) {
        for (int i = 0; i < word.length(); i++) {
            x.feed(word.charAt(i), 1);
        }
    }

    /** These may answer what looks like a refusal. */
    private static boolean answersAnything(String name) {
        return name.equals("element") || name.equals("groundOf") || name.equals("seed") || name.equals("status");
    }

    private static int refusals(DeedCourt x) {
        int sum = 0;
        for (int what = 12; what <= 16; what++) {
            sum += x.status(what);
        }
        return sum;
    }

    private static void expect(boolean fine, String what) {
        if (!fine) {
            wrong++;
            System.out.println(what);
        }
    }
}
