import java.util.ArrayList;
import java.util.List;

/** What all test classes share: named tests, checks of answers and of exceptions, texts, and a look at a bench. */
abstract class Suite {
    interface Call {
        Object answer();
    }

    interface CallOn {
        Object answer(ConvolutionBench x);
    }

    interface Maker {
        ConvolutionBench make();
    }

    static final int NONE = ConvolutionBench.NONE;
    static final int LEAST = Integer.MIN_VALUE;
    static final int MOST = Integer.MAX_VALUE;
    static final Class<?> INDEX = IndexOutOfBoundsException.class;
    static final Class<?> ARGUMENT = IllegalArgumentException.class;
    static final Class<?> STATE = IllegalStateException.class;
    static final Class<?> ELEMENT = java.util.NoSuchElementException.class;

    static int passed = 0;
    static int failed = 0;

    private final List<String> faults = new ArrayList<>();

    abstract void run();

    void test(String name, Runnable body) {
        faults.clear();
        try {
            body.run();
        } catch (RuntimeException e) {
            faults.add("ended with " + e);
        }
        if (faults.isEmpty()) {
            passed++;
            return;
        }
        failed++;
        System.out.println("FAILED: " + name);
        for (String fault : faults) {
            System.out.println("  " + fault);
        }
    }

    void fault(String text) {
        faults.add(text);
    }

    /** Checks an answer; want is a long, an int or a boolean. */
    void due(Object want, Call call) {
        Object got = told(call);
        if (!plain(want).equals(plain(got))) {
            faults.add("answered " + got + ", due is " + want + " at " + place());
        }
    }

    /** Checks that each call throws exactly this exception and that nothing changes. */
    void refused(ConvolutionBench x, Class<?> want, Call... calls) {
        for (int i = 0; i < calls.length; i++) {
            String before = look(x);
            Object got = told(calls[i]);
            if (!want.equals(got)) {
                faults.add("call " + i + " answered " + got + ", due is " + want + " at " + place());
            }
            if (!before.equals(look(x))) {
                faults.add("call " + i + " changed the bench at " + place());
            }
        }
    }

    /** The answer of a call, or the class of the exception that it throws. */
    static Object told(Call call) {
        try {
            return call.answer();
        } catch (RuntimeException e) {
            return e.getClass();
        }
    }

    private static Object plain(Object answer) {
        return answer instanceof Number ? (Object) ((Number) answer).longValue() : answer;
    }

    private static String place() {
        for (StackTraceElement frame : new Throwable().getStackTrace()) {
            if (!frame.getClassName().equals("Suite")) {
                return frame.getFileName() + ":" + frame.getLineNumber();
            }
        }
        return "?";
    }

    /** Feeds a text, filled up with spaces, and loads it. */
    static int load(ConvolutionBench x, String text) {
        feed(x, text);
        return x.load(text.length());
    }

    static int feed(ConvolutionBench x, String text) {
        int fed = 0;
        for (int from = 0; from < text.length(); from += 20) {
            fed = x.feed(four(text, from), four(text, from + 4), four(text, from + 8), four(text, from + 12),
                    four(text, from + 16));
        }
        return fed;
    }

    static int four(String text, int from) {
        int word = 0;
        for (int i = from; i < from + 4; i++) {
            word = word << 8 | (i < text.length() ? text.charAt(i) & 255 : ' ');
        }
        return word;
    }

    static void set(ConvolutionBench x, int slot, int... terms) {
        x.cut(slot, 0);
        for (int term : terms) {
            x.append(slot, term);
        }
    }

    static ConvolutionBench withPrimes(int... primes) {
        ConvolutionBench x = new ConvolutionBench();
        for (int p : primes) {
            x.addPrime(p);
        }
        return x;
    }

    /** All that can be seen of a bench but for the text buffer and the number of changes. */
    static String look(ConvolutionBench x) {
        StringBuilder seen = new StringBuilder();
        seen.append(x.errorPosition()).append(" primes");
        for (int i = 0; i < x.primes(); i++) {
            seen.append(' ').append(x.prime(i, 0)).append('/').append(x.prime(i, 1));
        }
        for (int slot = 0; slot < 4; slot++) {
            seen.append(" slot").append(terms(x, slot));
        }
        return seen.append(lookAtProduct(x)).toString();
    }

    /** All that can be seen of a bench, also by undoing and by loading what was fed; it is used up behind this. */
    static String lookThrough(ConvolutionBench x) {
        StringBuilder seen = new StringBuilder(look(x));
        for (int i = 0; i <= 8; i++) {
            seen.append("\nundo ").append(told(x::undo)).append(' ').append(look(x));
        }
        Object fed = told(() -> x.feed(0x20202020, 0x20202020, 0x20202020, 0x20202020, 0x20202020));
        int length = fed instanceof Integer ? (Integer) fed : 600;
        return seen.append("\nload ").append(length).append(' ').append(x.load(length)).append(look(x)).toString();
    }

    static String terms(ConvolutionBench x, int slot) {
        StringBuilder seen = new StringBuilder();
        for (int k = 0; k < x.length(slot); k++) {
            seen.append(' ').append(x.term(slot, k));
        }
        return seen.toString();
    }

    private static String lookAtProduct(ConvolutionBench x) {
        StringBuilder seen = new StringBuilder();
        try {
            for (int what = 0; what < 4; what++) {
                seen.append(what == 0 ? " product " : " ").append(x.product(what));
            }
            for (int k = 0; k < x.product(0); k++) {
                seen.append(k == 0 ? ": " : " ").append(x.value(k)).append('/').append(digits(x, k));
            }
            seen.append(" at 2: ").append(x.productAt(2));
        } catch (IllegalStateException e) {
            seen.append(" no product");
        }
        return seen.toString();
    }

    /** The mixed digits of a coefficient, the lowest first. */
    static String digits(ConvolutionBench x, int k) {
        StringBuilder seen = new StringBuilder();
        for (int digit = 0; digit < Integer.bitCount(x.product(1)); digit++) {
            seen.append(digit == 0 ? "" : ",").append(x.digit(k, digit));
        }
        return seen.toString();
    }

    static String values(ConvolutionBench x) {
        StringBuilder seen = new StringBuilder();
        for (int k = 0; k < x.product(0); k++) {
            seen.append(k == 0 ? "" : " ").append(x.value(k));
        }
        return seen.toString();
    }
}
