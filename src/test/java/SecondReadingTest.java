import java.lang.reflect.InvocationTargetException;
import java.lang.reflect.Method;
import java.lang.reflect.Modifier;
import java.util.Arrays;
import java.util.HashMap;
import java.util.Map;
import java.util.TreeMap;

/** Random calls of all kinds, on the class and on a second reading of the document: they answer the same, to the last promised call. */
final class SecondReadingTest {
    private static final int RUNS = 2500;
    private static final int CALLS = 512;
    private static final int SETTING_UP = 24;
    private static final Map<String, Method> CLASS = methods(ChitWright.class);
    private static final Map<String, Method> SECOND = methods(SecondReading.class);
    private static final String[] NAMES = new TreeMap<>(CLASS).keySet().toArray(new String[0]);
    private static final String[] FAVOURITES = {"pass", "request", "invoice", "trip", "card", "person", "send", "change"};
    private static final String[] OFTEN = {"send", "send", "approve", "approve", "approve", "order", "order", "receive", "receive", "receive",
        "invoice", "invoice", "invoice", "invoice", "line", "line", "change", "end", "end", "refuse", "letGo", "letGo",
        "run", "run", "run", "bounce", "bounce", "goOn", "goOn", "centre", "centre", "centre", "requestOf", "requestOf", "requestOf",
        "lineOf", "invoiceOf", "invoiceOf", "invoiceOf", "next", "next", "staff", "account", "account", "account",
        "request", "request", "line", "send", "order", "receive", "invoice", "card", "tell", "trip"};

    private final Map<String, Integer> taken = new HashMap<>();

    public static void main(String[] args) {
        SecondReadingTest test = new SecondReadingTest();
        for (int seed = 1; seed <= RUNS; seed++) {
            test.play(seed);
        }
        for (String name : NAMES) {
            Check.due(name + " is taken often", true, test.taken.getOrDefault(name, 0) > RUNS / 3);
        }
        Check.close("SecondReadingTest");
    }

    private static Map<String, Method> methods(Class<?> of) {
        Map<String, Method> found = new HashMap<>();
        for (Method method : of.getDeclaredMethods()) {
            if (of != ChitWright.class || Modifier.isPublic(method.getModifiers())) {
                found.put(method.getName(), method);
            }
        }
        return found;
    }

    private void play(int seed) {
        ChitWright x = new ChitWright();
        SecondReading second = new SecondReading();
        RandomArguments random = new RandomArguments(second, seed);
        String favourite = random.oneOf(FAVOURITES);
        for (int i = 0; i < CALLS; i++) {
            String name = i < SETTING_UP ? random.settingUp(i) : random.below(8) == 0 ? favourite : random.oneOf(random.below(4) == 0 ? NAMES : OFTEN);
            Object[] a = random.arguments(name, CLASS.get(name).getParameterTypes());
            String want = answer(SECOND.get(name), second, a);
            String got = answer(CLASS.get(name), x, a);
            Check.due("seed " + seed + ", call " + i + ", " + name + Arrays.toString(a), want, got);
            if (!want.equals(got)) {
                return;
            }
            if (!want.endsWith("Exception")) {
                taken.merge(name, 1, Integer::sum);
            }
        }
    }

    /** The answer, or the name of what was thrown by a throw statement. */
    private static String answer(Method method, Object on, Object[] a) {
        try {
            return String.valueOf(method.invoke(on, a));
        } catch (InvocationTargetException e) {
            Throwable thrown = e.getCause();
            StackTraceElement[] trace = thrown.getStackTrace();
            boolean isByHand = trace.length > 0 && trace[0].getClassName().equals(method.getDeclaringClass().getName());
            return isByHand ? thrown.getClass().getSimpleName() : "by the machine: " + thrown;
        } catch (IllegalAccessException e) {
            return "no access";
        }
    }
}
