import java.lang.reflect.InvocationTargetException;
import java.lang.reflect.Method;
import java.lang.reflect.Modifier;
import java.util.HashMap;
import java.util.Map;
import java.util.Random;

/** Runs of 512 calls each, on a Transitry and on the Model: all answers and exceptions are the same. */
public final class ModelTest {
    private static final int RUNS = 120;
    private static final int CALLS = 512;
    private static final String[] NAMES = {
        "star", "planet", "spots", "blend", "light", "cloud", "observe", "kept", "score", "phase", "period",
        "whyNot", "oddEven", "world", "about", "periodAnew", "paper", "withdraw", "hasFallen",
    };
    private static final int[] FAR = {
        Integer.MIN_VALUE, Integer.MIN_VALUE + 1, -1000001, -61, -3, -2, -1, 0, 1, 2, 61, 120, 1000, 1000001,
        Integer.MAX_VALUE - 1, Integer.MAX_VALUE,
    };
    private static final Map<Class<?>, Map<String, Method>> METHODS = new HashMap<>();
    private static final Check check = new Check();
    private static final long[] answered = new long[NAMES.length];
    private static final long[] thrown = new long[NAMES.length];

    public static void main(String[] args) {
        for (int run = 0; run < RUNS; run++) {
            compare(run, new Random(run));
        }
        for (int call = 0; call < NAMES.length; call++) {
            check.due(NAMES[call] + " was answered in some runs", answered[call] > 50, true);
            check.due(NAMES[call] + " threw in some runs", thrown[call] > 50, true);
        }
        check.end();
    }

    private static void compare(int run, Random random) {
        Transitry x = new Transitry();
        Model model = new Model();
        for (int i = 0; i < CALLS; i++) {
            int call = i < 16 ? opening(i) : random.nextInt(NAMES.length);
            int[] a = random.nextInt(12) == 0 ? farArguments(random) : arguments(call, random);
            String want = answer(model, call, a);
            String got = answer(x, call, a);
            check.dueText("run " + run + ", call " + i + ": " + told(call, a), got, want);
            if (isNumber(want)) {
                answered[call]++;
            } else {
                thrown[call]++;
            }
        }
    }

    /** Stars, planets and nights come first in each run, so that it gets to worlds and papers. */
    private static int opening(int i) {
        int[] calls = {0, 0, 1, 1, 1, 2, 3, 6, 6, 6, 5, 6, 13, 13, 16, 16};
        return calls[i];
    }

    private static int[] farArguments(Random random) {
        int[] a = new int[5];
        for (int i = 0; i < a.length; i++) {
            a[i] = random.nextInt(3) == 0 ? FAR[random.nextInt(FAR.length)] : random.nextInt(3);
        }
        return a;
    }

    private static int from(Random random, int least, int most) {
        return least + random.nextInt(most - least + 1);
    }

    private static int[] arguments(int call, Random random) {
        int star = from(random, 0, random.nextInt(8) == 0 ? 6 : 2);
        int world = from(random, 0, random.nextInt(4) == 0 ? 12 : 4);
        int threshold = random.nextInt(3) == 0 ? 0 : random.nextInt(random.nextInt(3) == 0 ? 1000001 : 500);
        int from = random.nextInt(1000);
        int to = random.nextInt(10) == 0 ? from(random, 0, 1000) : Math.min(999, from + random.nextInt(60));
        switch (NAMES[call]) {
            case "star":
                return new int[] {random.nextBoolean() ? from(random, 1000, 3000) : from(random, 900, 1000100)};
            case "planet":
                int period = from(random, 2, 60);
                return new int[] {star, period, from(random, 0, period), from(random, 1, 4), from(random, 1, 201)};
            case "spots":
                return new int[] {star, from(random, 4, 60), from(random, 0, 101)};
            case "blend":
                return new int[] {star, random.nextInt(3) == 0 ? 0 : from(random, 0, 1000001)};
            case "light":
            case "kept":
                return new int[] {star, from(random, -1, 1000)};
            case "cloud":
                return new int[] {from, Math.min(to, from + random.nextInt(20))};
            case "observe":
                return new int[] {star, from, to};
            case "score":
            case "phase":
            case "oddEven":
                return new int[] {star, from(random, 1, 61)};
            case "period":
            case "whyNot":
            case "world":
                return new int[] {star, threshold};
            case "about":
                return new int[] {world, from(random, 0, 4)};
            case "paper":
                return new int[] {world, from(random, -1, random.nextInt(4) == 0 ? 30 : 8)};
            case "withdraw":
                // Seldom, so that some worlds stand long enough for papers to cite them.
                return new int[] {random.nextInt(5) == 0 ? world : from(random, 8, 14)};
            default:
                return new int[] {from(random, 0, random.nextInt(4) == 0 ? 30 : 8)};
        }
    }

    private static String told(int call, int[] a) {
        StringBuilder text = new StringBuilder(NAMES[call]).append('(');
        for (int i = 0; i < a.length; i++) {
            text.append(i == 0 ? "" : ", ").append(a[i]);
        }
        return text.append(')').toString();
    }

    private static boolean isNumber(String answer) {
        return !answer.startsWith("throws");
    }

    /** Transitry and Model have methods of the same names and parameters. */
    private static String answer(Object asked, int call, int[] a) {
        try {
            Method method = methods(asked.getClass()).get(NAMES[call]);
            Object[] arguments = new Object[method.getParameterCount()];
            for (int i = 0; i < arguments.length; i++) {
                arguments[i] = a[i];
            }
            Object answer = method.invoke(asked, arguments);
            return answer instanceof Boolean ? ((Boolean) answer ? "1" : "0") : answer.toString();
        } catch (InvocationTargetException e) {
            boolean isWanted = asked instanceof Model || Check.isThrownByProgram(e.getCause());
            return (isWanted ? "throws " : "the machine throws ") + e.getCause().getClass().getName();
        } catch (IllegalAccessException e) {
            throw new IllegalStateException(e);
        }
    }

    private static Map<String, Method> methods(Class<?> face) {
        return METHODS.computeIfAbsent(face, ModelTest::methodsByName);
    }

    private static Map<String, Method> methodsByName(Class<?> face) {
        Map<String, Method> found = new HashMap<>();
        for (Method method : face.getDeclaredMethods()) {
            if (!Modifier.isPrivate(method.getModifiers())) {
                found.put(method.getName(), method);
            }
        }
        return found;
    }
}
