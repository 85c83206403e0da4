import java.math.BigInteger;
import java.util.ArrayList;
import java.util.Arrays;
import java.util.HashSet;
import java.util.List;
import java.util.NoSuchElementException;
import java.util.Set;

/** The document once more, written as plainly as can be, without care for speed or room. */
public final class Oracle {
    private static final class State {
        List<Integer> primes = new ArrayList<>();
        List<List<Integer>> slots = new ArrayList<>();
        int[] about = null; // number, set, kind, length
        List<Long> values = new ArrayList<>();
        List<Integer> used = new ArrayList<>();

        State() {
            for (int i = 0; i < 4; i++) {
                slots.add(new ArrayList<>());
            }
        }

        State copy() {
            State c = new State();
            c.primes = new ArrayList<>(primes);
            for (int i = 0; i < 4; i++) {
                c.slots.set(i, new ArrayList<>(slots.get(i)));
            }
            c.about = about;
            c.values = new ArrayList<>(values);
            c.used = new ArrayList<>(used);
            return c;
        }
    }

    private State now = new State();
    private final List<State> past = new ArrayList<>();
    private String buffer = "";
    private int errorAt = -1;

    private void change() {
        past.add(now.copy());
        if (past.size() > 8) {
            past.remove(0);
        }
    }

    private static void index(boolean ok) {
        if (!ok) {
            throw new IndexOutOfBoundsException();
        }
    }

    private static void argument(boolean ok) {
        if (!ok) {
            throw new IllegalArgumentException();
        }
    }

    private static void state(boolean ok) {
        if (!ok) {
            throw new IllegalStateException();
        }
    }

    private static void element(boolean ok) {
        if (!ok) {
            throw new NoSuchElementException();
        }
    }

    private int p(int prime) {
        index(prime >= 0 && prime < now.primes.size());
        return now.primes.get(prime);
    }

    private List<Integer> slot(int slot) {
        index(slot >= 0 && slot < 4);
        return now.slots.get(slot);
    }

    private List<Integer> set(int set) {
        List<Integer> primes = new ArrayList<>();
        for (int i = 0; i < 32; i++) {
            if ((set >>> i & 1) == 1) {
                primes.add(p(i));
            }
        }
        return primes;
    }

    private static boolean isPrime(int n) {
        return n > 1 && BigInteger.valueOf(n).isProbablePrime(50);
    }

    private static long pow(long base, long exponent, int p) {
        return BigInteger.valueOf(base).modPow(BigInteger.valueOf(exponent), BigInteger.valueOf(p)).longValue();
    }

    private static final java.util.Map<Integer, Integer> GENERATORS = new java.util.HashMap<>();

    private static int generator(int p) {
        Integer known = GENERATORS.get(p);
        for (int g = 2; known == null; g++) {
            if (orderOf(p, g) == p - 1) {
                known = g;
                GENERATORS.put(p, g);
            }
        }
        return known;
    }

    private static int orderOf(int p, long value) {
        int order = 1;
        for (long power = Math.floorMod(value, (long) p); power != 1; power = power * Math.floorMod(value, (long) p) % p) {
            order++;
        }
        return order;
    }

    private static long rootOf(int p, int n) {
        element((p - 1) % n == 0);
        return pow(generator(p), (p - 1) / n, p);
    }

    public int feed(int a, int b, int c, int d, int e) {
        state(buffer.length() + 20 <= 600);
        for (int word : new int[] {a, b, c, d, e}) {
            for (int i = 3; i >= 0; i--) {
                buffer += (char) (word >>> 8 * i & 255);
            }
        }
        return buffer.length();
    }

    private static final class Fault extends RuntimeException {
        private static final long serialVersionUID = 1L;

        final int code;
        final int at;

        Fault(int code, int at) {
            this.code = code;
            this.at = at;
        }
    }

    public int load(int length) {
        argument(length >= 0 && length <= buffer.length());
        String text = buffer.substring(0, length);
        buffer = "";
        State read = new State();
        try {
            readAll(text, read);
        } catch (Fault fault) {
            errorAt = fault.at;
            return fault.code;
        }
        errorAt = -1;
        change();
        now = read;
        return now.primes.size();
    }

    /** Cuts the text into tokens first; each token is {begin, end}, the last one is empty. */
    private static List<int[]> tokens(String text) {
        List<int[]> tokens = new ArrayList<>();
        int at = 0;
        while (at < text.length()) {
            int begin = at;
            if (text.charAt(at) == ' ') {
                at++;
                continue;
            }
            String kind = text.substring(at, at + 1).matches("[a-z]") ? "[a-z]"
                    : text.substring(at, at + 1).matches("[0-9]") ? "[0-9]" : null;
            at++;
            while (kind != null && at < text.length() && text.substring(at, at + 1).matches(kind)) {
                at++;
            }
            tokens.add(new int[] {begin, at});
        }
        tokens.add(new int[] {text.length(), text.length()});
        return tokens;
    }

    private static void readAll(String text, State read) {
        List<int[]> tokens = tokens(text);
        int t = 0;
        while (t < tokens.size() - 1) {
            String word = word(text, tokens, t);
            int begin = tokens.get(t)[0];
            t++;
            if (word.equals("prime")) {
                if (read.primes.size() == 6) {
                    throw new Fault(-4, begin);
                }
                BigInteger p = number(text, tokens, t);
                if (p.compareTo(BigInteger.valueOf(3)) < 0 || p.compareTo(BigInteger.valueOf(100003)) > 0
                        || !isPrime(p.intValue()) || read.primes.contains(p.intValue())) {
                    throw new Fault(-3, tokens.get(t)[0]);
                }
                read.primes.add(p.intValue());
                t++;
            } else if (word.equals("sequence")) {
                BigInteger slot = number(text, tokens, t);
                if (slot.compareTo(BigInteger.valueOf(3)) > 0) {
                    throw new Fault(-3, tokens.get(t)[0]);
                }
                t++;
                List<Integer> terms = new ArrayList<>();
                t = readTerms(text, tokens, t, terms);
                read.slots.set(slot.intValue(), terms);
            } else {
                throw new Fault(-2, begin);
            }
            if (!word(text, tokens, t).equals(";")) {
                throw new Fault(-2, tokens.get(t)[0]);
            }
            t++;
        }
    }

    private static int readTerms(String text, List<int[]> tokens, int from, List<Integer> terms) {
        int t = from;
        while (word(text, tokens, t).matches("-|[0-9]+")) {
            boolean negative = word(text, tokens, t).equals("-");
            if (negative) {
                if (terms.size() == 32) {
                    throw new Fault(-4, tokens.get(t)[0]);
                }
                t++;
            }
            BigInteger size = number(text, tokens, t);
            if (size.compareTo(BigInteger.valueOf(9999)) > 0) {
                throw new Fault(-3, tokens.get(t)[0]);
            }
            if (terms.size() == 32) {
                throw new Fault(-4, tokens.get(t)[0]);
            }
            terms.add(negative ? -size.intValue() : size.intValue());
            t++;
        }
        return t;
    }

    private static String word(String text, List<int[]> tokens, int t) {
        return text.substring(tokens.get(t)[0], tokens.get(t)[1]);
    }

    private static BigInteger number(String text, List<int[]> tokens, int t) {
        if (!word(text, tokens, t).matches("[0-9]+")) {
            throw new Fault(-2, tokens.get(t)[0]);
        }
        return new BigInteger(word(text, tokens, t));
    }

    public int errorPosition() {
        return errorAt;
    }

    public int primes() {
        return now.primes.size();
    }

    public int addPrime(int p) {
        argument(p >= 3 && p <= 100003 && isPrime(p) && !now.primes.contains(p));
        state(now.primes.size() < 6);
        change();
        now.primes.add(p);
        return now.primes.indexOf(p);
    }

    public int removePrime(int prime) {
        p(prime);
        change();
        now.primes.remove(prime);
        return now.primes.size();
    }

    public int prime(int prime, int what) {
        int p = p(prime);
        argument(what >= 0 && what <= 4);
        Set<Integer> factors = new HashSet<>();
        int lengths = 0;
        int two = 1;
        for (int d = 1; d < p; d++) {
            if ((p - 1) % d == 0) {
                lengths += d <= 64 ? 1 : 0;
                two = Integer.bitCount(d) == 1 ? d : two;
                if (isPrime(d)) {
                    factors.add(d);
                }
            }
        }
        return new int[] {p, generator(p), two, factors.size(), lengths}[what];
    }

    public int root(int prime, int n) {
        int p = p(prime);
        argument(n >= 1 && n < p);
        return (int) rootOf(p, n);
    }

    public int power(int prime, int base, int exponent) {
        int p = p(prime);
        argument(exponent >= 0);
        return (int) pow(base, exponent, p);
    }

    public int inverse(int prime, int value) {
        int p = p(prime);
        element(value % p != 0);
        return BigInteger.valueOf(value).modInverse(BigInteger.valueOf(p)).intValue();
    }

    public int order(int prime, int value) {
        int p = p(prime);
        element(value % p != 0);
        return orderOf(p, value);
    }

    public int logarithm(int prime, int value) {
        int p = p(prime);
        element(value % p != 0);
        int exponent = 0;
        for (long power = 1; power != Math.floorMod(value, p); power = power * generator(p) % p) {
            exponent++;
        }
        return exponent;
    }

    public int primeFor(int n, int above) {
        argument(n >= 1 && n <= 128 && above >= 2 && above <= 100002);
        for (int p = above + 1; p <= 100003; p++) {
            if ((p - 1) % n == 0 && isPrime(p)) {
                return p;
            }
        }
        throw new NoSuchElementException();
    }

    public int usable(int kind, int length) {
        argument(kind >= 0 && kind <= 2 && length >= 1 && length <= 64);
        int mask = 0;
        for (int i = 0; i < now.primes.size(); i++) {
            mask += (now.primes.get(i) - 1) % (kind == 2 ? 2 * length : length) == 0 ? 1 << i : 0;
        }
        return mask;
    }

    public int length(int slot) {
        return slot(slot).size();
    }

    public int term(int slot, int k) {
        index(k >= 0 && k < slot(slot).size());
        return slot(slot).get(k);
    }

    public int setSequence(int slot, int length, int from, int step) {
        int previous = slot(slot).size();
        argument(length >= 0 && length <= 32 && step >= -999 && step <= 999);
        List<Integer> terms = new ArrayList<>();
        for (int k = 0; k < length; k++) {
            long term = from + (long) k * step;
            argument(term >= -9999 && term <= 9999);
            terms.add((int) term);
        }
        change();
        now.slots.set(slot, terms);
        return previous;
    }

    public int append(int slot, int value) {
        slot(slot);
        argument(value >= -9999 && value <= 9999);
        state(slot(slot).size() < 32);
        change();
        slot(slot).add(value);
        return slot(slot).size();
    }

    public int cut(int slot, int length) {
        int before = slot(slot).size();
        argument(length >= 0 && length <= before);
        change();
        now.slots.set(slot, new ArrayList<>(slot(slot).subList(0, length)));
        return before - length;
    }

    public int swap(int one, int other) {
        slot(one);
        slot(other);
        change();
        List<Integer> kept = slot(one);
        now.slots.set(one, slot(other));
        now.slots.set(other, kept);
        return slot(one).size();
    }

    public int transform(int prime, int slot, int n, int k) {
        int p = p(prime);
        slot(slot);
        argument(n >= 1 && n <= 64 && k >= 0 && k < n);
        long w = rootOf(p, n);
        long sum = 0;
        for (int j = 0; j < slot(slot).size(); j++) {
            sum += slot(slot).get(j) * pow(w, j * k, p);
        }
        return (int) Math.floorMod(sum, (long) p);
    }

    public int cost(int prime, int n, int method) {
        int p = p(prime);
        argument(n >= 1 && n <= 64 && method >= 0 && method <= 2);
        element((p - 1) % n == 0);
        return costOf(p, n, method);
    }

    private static int costOf(int p, int n, int method) {
        int sum = 0;
        int rest = n;
        for (int f = 2; rest > 1; f++) {
            for (; rest % f == 0; rest /= f) {
                sum += f - 1;
            }
        }
        int t = 0;
        while (1 << t < 2 * n - 1) {
            t++;
        }
        int m = 1 << t;
        return new int[] {n * n, n * sum, (p - 1) % m == 0 ? 3 * m * t + m + 2 * n : -1}[method];
    }

    public int method(int prime, int n) {
        int p = p(prime);
        argument(n >= 1 && n <= 64);
        element((p - 1) % n == 0);
        int least = least(p, n);
        return costOf(p, n, 0) == least ? 0 : costOf(p, n, 1) == least ? 1 : 2;
    }

    private static int least(int p, int n) {
        int chirps = costOf(p, n, 2);
        int others = Math.min(costOf(p, n, 0), costOf(p, n, 1));
        return chirps < 0 ? others : Math.min(chirps, others);
    }

    public int chirp(int prime, int n, int j) {
        int p = p(prime);
        argument(n >= 1 && n <= 64 && j >= 0 && j <= 2 * n);
        return (int) pow(rootOf(p, n), j * (j - 1) / 2, p);
    }

    public int longest(int set) {
        List<Integer> primes = set(set);
        int longest = 1;
        for (int n = 1; n <= 64; n++) {
            boolean all = true;
            for (int p : primes) {
                all &= (p - 1) % n == 0;
            }
            longest = all ? n : longest;
        }
        return longest;
    }

    private void filled(int one, int other) {
        slot(one);
        slot(other);
        state(!slot(one).isEmpty() && !slot(other).isEmpty());
    }

    public int size(int kind, int one, int other, int n) {
        filled(one, other);
        argument(kind >= 0 && kind <= 2);
        if (kind == 0) {
            return slot(one).size() + slot(other).size() - 1;
        }
        argument(n >= 1 && n <= 64 && n >= slot(one).size() && n >= slot(other).size());
        return n;
    }

    public long bound(int one, int other) {
        filled(one, other);
        return (long) Math.min(slot(one).size(), slot(other).size()) * greatest(one) * greatest(other);
    }

    private long greatest(int slot) {
        return slot(slot).stream().mapToLong(Math::abs).max().getAsLong();
    }

    public long coefficient(int kind, int one, int other, int n, int k) {
        int size = size(kind, one, other, n);
        argument(k >= 0 && k < size);
        return definition(kind, one, other, size, k);
    }

    private long definition(int kind, int one, int other, int size, int k) {
        long sum = 0;
        for (int i = 0; i < slot(one).size(); i++) {
            for (int j = 0; j < slot(other).size(); j++) {
                int over = i + j - k;
                if (kind == 0 ? over == 0 : Math.floorMod(over, size) == 0) {
                    long product = (long) slot(one).get(i) * slot(other).get(j);
                    sum += kind == 2 && Math.floorMod(Math.floorDiv(over, size), 2) == 1 ? -product : product;
                }
            }
        }
        return sum;
    }

    private static BigInteger product(List<Integer> primes) {
        BigInteger product = BigInteger.ONE;
        for (int p : primes) {
            product = product.multiply(BigInteger.valueOf(p));
        }
        return product;
    }

    public boolean isEnough(int set, int one, int other) {
        List<Integer> primes = set(set);
        filled(one, other);
        return !primes.isEmpty() && product(primes).compareTo(BigInteger.valueOf(2 * bound(one, other))) > 0;
    }

    /** All plans but the schoolbook plan: {steps, M, set}. */
    private List<int[]> allPlans(int kind, int one, int other, int size) {
        List<int[]> plans = new ArrayList<>();
        for (int m = size; m <= (kind == 0 ? 64 : size); m++) {
            for (int set = 1; set < 1 << now.primes.size(); set++) {
                if ((set & ~usable(kind, m)) != 0 || !isEnough(set, one, other)) {
                    continue;
                }
                int r = Integer.bitCount(set);
                int steps = m * r * (r - 1) / 2;
                for (int p : set(set)) {
                    steps += 3 * least(p, m) + (kind == 2 ? 4 * m : m);
                }
                plans.add(new int[] {steps, m, set});
            }
        }
        plans.sort((x, y) -> Arrays.compare(x, y));
        return plans;
    }

    public int plan(int kind, int one, int other, int n, int what) {
        int size = size(kind, one, other, n);
        argument(what >= 0 && what <= 2);
        int[] best = {slot(one).size() * slot(other).size(), 0, 0};
        List<int[]> plans = allPlans(kind, one, other, size);
        if (!plans.isEmpty() && plans.get(0)[0] < best[0]) {
            best = plans.get(0);
        }
        return best[what];
    }

    public int transformSteps(int kind, int one, int other, int n) {
        List<int[]> plans = allPlans(kind, one, other, size(kind, one, other, n));
        element(!plans.isEmpty());
        return plans.get(0)[0];
    }

    public int multiply(int kind, int one, int other, int length, int set) {
        List<Integer> primes = set(set);
        int size = size(kind, one, other, length);
        argument(length >= size && length <= 64 && set != 0);
        BigInteger modulus = product(primes);
        argument(modulus.compareTo(new BigInteger("4000000000000000000")) <= 0);
        for (int p : primes) {
            element((p - 1) % (kind == 2 ? 2 * length : length) == 0);
        }
        change();
        now.about = new int[] {size, set, kind, length};
        now.used = primes;
        now.values = new ArrayList<>();
        for (int k = 0; k < size; k++) {
            BigInteger least = BigInteger.valueOf(definition(kind, one, other, size, k)).mod(modulus);
            if (least.compareTo(modulus.subtract(least)) > 0) {
                least = least.subtract(modulus);
            }
            now.values.add(least.longValueExact());
        }
        return size;
    }

    public int product(int what) {
        state(now.about != null);
        argument(what >= 0 && what <= 3);
        return now.about[what];
    }

    public long value(int k) {
        state(now.about != null);
        index(k >= 0 && k < now.values.size());
        return now.values.get(k);
    }

    public int digit(int k, int digit) {
        BigInteger rest = BigInteger.valueOf(value(k)).mod(product(now.used));
        index(digit >= 0 && digit < now.used.size());
        for (int i = 0; i < digit; i++) {
            rest = rest.divide(BigInteger.valueOf(now.used.get(i)));
        }
        return rest.mod(BigInteger.valueOf(now.used.get(digit))).intValue();
    }

    public int productAt(int x) {
        state(now.about != null);
        BigInteger sum = BigInteger.ZERO;
        for (int k = 0; k < now.values.size(); k++) {
            sum = sum.add(BigInteger.valueOf(x).pow(k).multiply(BigInteger.valueOf(value(k))));
        }
        return sum.mod(BigInteger.valueOf(1000003)).intValue();
    }

    public int residue(int prime, int k) {
        int p = p(prime);
        state(now.about != null);
        argument(k >= 0 && k < now.values.size());
        return BigInteger.valueOf(value(k)).mod(BigInteger.valueOf(p)).intValue();
    }

    public int agreeing(int one, int other) {
        slot(one);
        slot(other);
        state(now.about != null);
        filled(one, other);
        int number = now.about[0];
        int la = slot(one).size();
        int lb = slot(other).size();
        if (now.about[2] == 0 ? la + lb - 1 != number : number < la || number < lb) {
            return -1;
        }
        int equal = 0;
        for (int k = 0; k < number; k++) {
            equal += value(k) == definition(now.about[2], one, other, number, k) ? 1 : 0;
        }
        return equal;
    }

    public int store(int slot) {
        slot(slot);
        state(now.about != null && now.values.size() <= 32);
        List<Integer> terms = new ArrayList<>();
        for (long value : now.values) {
            state(value >= -9999 && value <= 9999);
            terms.add((int) value);
        }
        change();
        now.slots.set(slot, terms);
        return terms.size();
    }

    public int undo() {
        state(!past.isEmpty());
        now = past.remove(past.size() - 1);
        return past.size();
    }
}
