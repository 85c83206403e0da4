import java.lang.reflect.InvocationTargetException;
import java.lang.reflect.Method;
import java.util.ArrayList;
import java.util.Arrays;
import java.util.Comparator;
import java.util.HashMap;
import java.util.List;
import java.util.Map;

/** Long runs of calls whose answers are compared with the oracle's; always the same ones. */
final class OracleTest extends Suite {
    private static final int RUNS = 400;
    private static final int CALLS = 512;
    private static final int PLANS = 600;
    private static final int[] PRIMES = {3, 5, 7, 11, 13, 17, 19, 29, 31, 37, 41, 61, 73, 97, 113, 193, 241, 257, 337, 449,
        577, 641, 673, 769, 12289, 30241, 39041, 40961, 43891, 55441, 65521, 65537, 92401, 99989, 99991, 100003};

    /** What each argument of a method is; see the words in arguments. */
    private static final String[] SHAPES = {
        "errorPosition", "primes", "addPrime:p", "addPrime:p", "addPrime:p", "removePrime:i", "prime:i what", "root:i order",
        "power:i any exp", "inverse:i any", "order:i any", "logarithm:i any", "primeFor:order above", "usable:kind n",
        "length:s", "term:s k", "setSequence:s len from step", "setSequence:s len from step", "append:s val",
        "append:s val", "append:s val", "cut:s k", "swap:s s", "transform:i s n k", "transform:i s n k", "cost:i n what",
        "method:i n", "chirp:i n k", "longest:set", "size:kind s s n", "bound:s s", "coefficient:kind s s n k",
        "coefficient:kind s s n k", "isEnough:set s s", "plan:kind s s n what", "plan:kind s s n what",
        "transformSteps:kind s s n", "transformSteps:kind s s n", "multiply:kind s s n set", "multiply:kind s s n set",
        "multiply:kind s s n set", "multiply:kind s s n set", "multiply:kind s s n set", "multiply:kind s s n set",
        "product:what", "value:k", "value:k", "digit:k what", "productAt:any", "residue:i k", "agreeing:s s",
        "agreeing:s s", "store:s", "store:s", "undo", "text", "text"};

    private long seed;
    private int refusals;
    private int answers;
    private int products;
    private int transformPlans;

    @Override
    void run() {
        test("runs of calls against the oracle", () -> {
            for (int run = 1; run <= RUNS; run++) {
                seed = run * 7919L;
                if (!oneRun(run)) {
                    return;
                }
            }
            if (answers < 50000 || refusals < 20000 || products < 2000) {
                fault("too few calls: " + answers + " answers, " + refusals + " refusals, " + products + " products");
            }
        });
        test("plans of long sequences against the oracle", () -> {
            for (int run = 1; run <= PLANS; run++) {
                seed = run * 104729L;
                onePlan();
            }
            if (transformPlans < PLANS / 4) {
                fault("too few plans with transforms: " + transformPlans);
            }
        });
    }

    /** Long sequences with small terms, so that plans with transforms win as well. */
    private void onePlan() {
        ConvolutionBench x = new ConvolutionBench();
        Oracle oracle = new Oracle();
        int primes = 1 + next(6);
        while (x.primes() < primes) {
            int p = pick(193, 257, 449, 577, 641, 673, 769, 12289, 30241, 39041, 40961, 55441, 65521, 65537, 92401);
            Object[] prime = {p};
            due(answer(methods(Oracle.class).get("addPrime"), oracle, prime),
                    () -> answer(methods(ConvolutionBench.class).get("addPrime"), x, prime));
        }
        for (int slot = 0; slot < 2; slot++) {
            int length = 26 + next(7);
            int from = pick(0, 1, -3, 2, 1, 20, 300, 9000);
            int step = pick(0, 0, 0, 1);
            int at = slot;
            due(oracle.setSequence(at, length, from, step), () -> x.setSequence(at, length, from, step));
        }
        for (int kind = 0; kind <= 2; kind++) {
            int asked = kind;
            int n = pick(32, 32, 36, 40, 48, 63, 64);
            for (int what = 0; what <= 2; what++) {
                int part = what;
                int want = oracle.plan(asked, 0, 1, n, part);
                due(want, () -> x.plan(asked, 0, 1, n, part));
                transformPlans += part == 1 && want > 0 ? 1 : 0;
            }
            Object[] arguments = {kind, 0, 1, n};
            due(answer(methods(Oracle.class).get("transformSteps"), oracle, arguments),
                    () -> answer(methods(ConvolutionBench.class).get("transformSteps"), x, arguments));
        }
    }

    private boolean oneRun(int run) {
        ConvolutionBench x = new ConvolutionBench();
        Oracle oracle = new Oracle();
        Map<String, Method> ours = methods(ConvolutionBench.class);
        Map<String, Method> theirs = methods(Oracle.class);
        List<String> calls = new ArrayList<>();
        int wild = run % 4 == 0 ? 3 : 25;
        for (int i = 0; i < CALLS; i++) {
            String shape = SHAPES[next(SHAPES.length)];
            List<Object[]> made = shape.equals("text") ? textCalls() : java.util.Collections.singletonList(call(shape, oracle, wild));
            for (Object[] call : made) {
                Object[] arguments = Arrays.copyOfRange(call, 1, call.length);
                String name = (String) call[0];
                Object got = answer(ours.get(name), x, arguments);
                Object want = answer(theirs.get(name), oracle, arguments);
                calls.add(name + Arrays.toString(arguments) + " = " + want);
                refusals += want instanceof Class ? 1 : 0;
                answers += want instanceof Class ? 0 : 1;
                products += name.equals("multiply") && !(want instanceof Class) ? 1 : 0;
                if (!want.equals(got)) {
                    fault("run " + run + " answered " + got + ":\n" + String.join("\n", calls));
                    return false;
                }
            }
        }
        return true;
    }

    private static Map<String, Method> methods(Class<?> type) {
        Map<String, Method> methods = new HashMap<>();
        Method[] all = type.getDeclaredMethods();
        Arrays.sort(all, Comparator.comparing(Method::getName));
        for (Method method : all) {
            if (java.lang.reflect.Modifier.isPublic(method.getModifiers())) {
                methods.put(method.getName(), method);
            }
        }
        return methods;
    }

    private static Object answer(Method method, Object on, Object[] arguments) {
        try {
            return method.invoke(on, arguments);
        } catch (InvocationTargetException e) {
            return e.getCause().getClass();
        } catch (IllegalAccessException e) {
            throw new IllegalStateException(e);
        }
    }

    private int next(int below) {
        seed = seed * 6364136223846793005L + 1442695040888963407L;
        return (int) Math.floorMod(seed >>> 33, (long) below);
    }

    private int pick(int... from) {
        return from[next(from.length)];
    }

    private Object[] call(String shape, Oracle oracle, int wild) {
        String[] parts = shape.split(":");
        String[] kinds = parts.length == 1 ? new String[0] : parts[1].split(" ");
        Object[] call = new Object[kinds.length + 1];
        call[0] = parts[0];
        for (int i = 0; i < kinds.length; i++) {
            call[i + 1] = next(wild) == 0
                    ? pick(-1, 0, 1, 4, 5, 6, 64, 65, 33, 128, 1000, -1000, 10000, Integer.MIN_VALUE, Integer.MAX_VALUE)
                    : argument(kinds[i], oracle);
        }
        if (parts[0].equals("multiply") && next(4) != 0) {
            fitLength(call, oracle);
        }
        return call;
    }

    /** Makes it likely that a product comes out. */
    private void fitLength(Object[] call, Oracle oracle) {
        int kind = (Integer) call[1];
        if (kind < 0 || kind > 2) {
            return;
        }
        for (int tries = 0; tries < 40; tries++) {
            int length = 1 + next(64);
            int usable = oracle.usable(kind, length);
            if (usable != 0) {
                call[4] = length;
                call[5] = next(3) == 0 ? usable : (next(64) & usable) == 0 ? usable & -usable : next(64) & usable;
                return;
            }
        }
    }

    private int argument(String kind, Oracle oracle) {
        switch (kind) {
            case "p":
                return next(4) == 0 ? next(100100) : pick(PRIMES);
            case "i":
                return next(Math.max(1, oracle.primes()));
            case "s":
                return next(4);
            case "what":
                return next(4);
            case "kind":
                return next(3);
            case "n":
                return next(3) == 0 ? pick(1, 2, 4, 8, 16, 32, 64, 48, 61, 60) : 1 + next(64);
            case "order":
                return next(2) == 0 ? 1 + next(130) : pick(2, 3, 4, 6, 8, 12, 16, 24, 64, 128);
            case "above":
                return next(3) == 0 ? 99900 + next(104) : next(100003);
            case "exp":
                return next(2) == 0 ? next(50) : next(Integer.MAX_VALUE);
            case "any":
                return next(2) == 0 ? next(200) - 100 : next(Integer.MAX_VALUE) - 1000000000;
            case "k":
                return next(3) == 0 ? next(64) : next(6);
            case "len":
                return next(3) == 0 ? 1 + next(32) : 1 + next(6);
            case "from":
                return next(2) == 0 ? next(20) - 10 : next(20100) - 10050;
            case "step":
                return next(2) == 0 ? next(8) - 4 : next(2010) - 1005;
            case "val":
                return next(2) == 0 ? next(30) - 15 : next(20100) - 10050;
            default:
                return next(1 << Math.max(1, oracle.primes()));
        }
    }

    /** Calls of feed and one of load, with a text that may have a fault. */
    private List<Object[]> textCalls() {
        StringBuilder text = new StringBuilder();
        int statements = next(9);
        for (int i = 0; i < statements && text.length() < 480; i++) {
            text.append(next(3) == 0 ? " " : "");
            statement(text);
        }
        if (next(3) == 0 && text.length() > 0) {
            spoil(text);
        }
        int length = Math.min(600, text.length());
        List<Object[]> calls = new ArrayList<>();
        for (int from = 0; from < length; from += 20) {
            String all = text.toString();
            calls.add(new Object[] {"feed", four(all, from), four(all, from + 4), four(all, from + 8),
                four(all, from + 12), four(all, from + 16)});
        }
        calls.add(new Object[] {"load", next(30) == 0 ? length + 21 : length});
        calls.add(new Object[] {"errorPosition"});
        return calls;
    }

    private void statement(StringBuilder text) {
        if (next(2) == 0) {
            text.append("prime").append(next(4) == 0 ? "" : " ").append(next(9) == 0 ? next(100100) : pick(PRIMES));
        } else {
            text.append("sequence").append(next(4) == 0 ? "  " : " ").append(next(25) == 0 ? 4 : next(4));
            int terms = next(4) == 0 ? 30 + next(4) : next(8);
            for (int k = 0; k < terms; k++) {
                text.append(next(3) == 0 ? "-" : " ").append(next(5) == 0 ? " " : "");
                text.append(next(60) == 0 ? 9990 + next(20) : next(40));
            }
        }
        text.append(next(5) == 0 ? " ;" : ";");
    }

    private void spoil(StringBuilder text) {
        int at = next(text.length());
        switch (next(4)) {
            case 0:
                text.deleteCharAt(at);
                break;
            case 1:
                text.setCharAt(at, (char) next(256));
                break;
            case 2:
                text.insert(at, "- ;x7 primesequence".charAt(next(19)));
                break;
            default:
                text.setLength(at);
                break;
        }
    }
}
