import java.lang.reflect.InvocationTargetException;
import java.lang.reflect.Method;
import java.lang.reflect.Modifier;
import java.util.Arrays;
import java.util.Comparator;
import java.util.Random;

/** No call throws, whatever numbers it gets and however things stand; REFUSALS are counted once each. */
public final class ExtremesTest {
    private static final int[] NUMBERS = {Integer.MIN_VALUE, Integer.MIN_VALUE + 1, -1000, -65, -2, -1, 0, 0, 0, 1, 1, 1, 2, 2,
        3, 3, 4, 5, 6, 7, 8, 9, 10, 11, 23, 24, 25, 31, 32, 33, 63, 64, 65, 99, 100, 101, 255, 256, 500, 501, 998, 999, 1000,
        19999, 1 << 30, Integer.MAX_VALUE - 1, Integer.MAX_VALUE};
    private static final String[] WORDS = {"0", "1", "2", "3", " ", "not ", "or ", "apart ", "within ", "old ", "north ",
        "east ", "year ", "weight ", "99", "{", "\u00ff"};

    private static int wrong = 0;

    private ExtremesTest() {
    }

    public static void main(String[] args) throws IllegalAccessException {
        Method[] face = Arrays.stream(DeedCourt.class.getDeclaredMethods())
            .filter(m -> Modifier.isPublic(m.getModifiers()))
            .sorted(Comparator.comparing(Method::getName))
            .toArray(Method[]::new);
        for (int seed = 0; seed < 2000 && wrong < 10; seed++) {
            run(new Random(seed), face);
        }
        System.out.println("ExtremesTest: " + wrong + " wrong");
        if (wrong != 0) {
            System.exit(1);
        }
    }

    private static void run(Random random, Method[] face) throws IllegalAccessException {
        DeedCourt x = new DeedCourt();
        int[] refused = new int[5];
        int calls = 0;
        // An object is used for 512 calls: the last five tell how many REFUSALS there were.
        while (calls < 500) {
            if (random.nextInt(6) == 0) {
                calls += feed(x, WORDS[random.nextInt(WORDS.length)], refused);
            }
            Method method = face[random.nextInt(face.length)];
            Object[] arguments = new Object[method.getParameterCount()];
            for (int a = 0; a < arguments.length; a++) {
                int number = NUMBERS[random.nextInt(random.nextBoolean() ? NUMBERS.length : 20)];
                Class<?> type = method.getParameterTypes()[a];
                arguments[a] = type == boolean.class ? (Object) (number > 2) : type == long.class ? (Object) (long) number : number;
            }
            try {
                calls++;
                long answer = ((Number) method.invoke(x, arguments)).longValue();
                if (method.getName().equals("deed") && answer <= -20) {
                    answer = -2;
                }
                if (!answersAnything(method.getName()) && answer <= -2 && answer >= -6) {
                    refused[(int) (-2 - answer)]++;
                }
            } catch (InvocationTargetException thrown) {
                expect(false, method.getName() + Arrays.toString(arguments) + " threw " + thrown.getCause());
            }
        }
        for (int i = 0; i < 5; i++) {
            int told = x.status(12 + i);
            expect(told == refused[i], "there were " + refused[i] + " REFUSALS " + (-2 - i) + ", told are " + told);
        }
    }

    /** Feeds a word, in one call or two: how many. */
    private static int feed(DeedCourt x, String word, int[] refused) {
        int calls = 0;
        for (int i = 0; i < word.length(); i += 4) {
            int n = Math.min(4, word.length() - i);
            int v = 0;
            for (int k = 0; k < n; k++) {
                v = v << 8 | word.charAt(i + k) & 255;
            }
            if (x.feed(v, n) < 0) {
                refused[4]++;
            }
            calls++;
        }
        return calls;
    }

    /** These may answer what looks like a refusal. */
    private static boolean answersAnything(String name) {
        return name.equals("element") || name.equals("groundOf") || name.equals("seed") || name.equals("status");
    }

    private static void expect(boolean fine, String what) {
        if (!fine) {
            wrong++;
            System.out.println(what);
        }
    }
}
