import java.util.NoSuchElementException;

/** A bench for convolutions by number-theoretic transforms; ../shared/DOC.md says what it promises. */
public final class ConvolutionBench {
    /** There is none. */
    public static final int NONE = -1;
    /** Error code of load: the text does not follow the grammar. */
    public static final int SYNTAX_ERROR = -2;
    /** Error code of load: a number that cannot be. */
    public static final int VALUE_ERROR = -3;
    /** Error code of load: there is too much of something. */
    public static final int TOO_MANY = -4;

    private static final int MOST_PRIMES = 6;
    private static final int LEAST_PRIME = 3;
    private static final int GREATEST_PRIME = 100003;
    private static final int SLOTS = 4;
    private static final int MOST_TERMS = 32;
    private static final int GREATEST_TERM = 9999;
    private static final int GREATEST_STEP = 999;
    private static final int MOST_LENGTH = 64;
    private static final int MOST_ORDER = 128;
    private static final int MOST_BYTES = 600;
    private static final int FED_BYTES = 20;
    private static final int MOST_CHANGES = 8;

    private static final int LINEAR = 0;
    private static final int CYCLIC = 1;
    private static final int TWISTED = 2;

    private static final int BY_DEFINITION = 0;
    private static final int BY_SPLITTING = 1;
    private static final int BY_CHIRPS = 2;

    private static final long GREATEST_MODULUS = 4_000_000_000_000_000_000L;
    private static final int PLACE_MODULUS = 1000003;

    private final Bench bench = new Bench();
    private final History history = new History();
    private final TextReader reader = new TextReader();
    private final LogarithmTable logarithms = new LogarithmTable();
    private final Multiplier multiplier = new Multiplier();
    private final PlanFinder plans = new PlanFinder();

    public ConvolutionBench() {
    }

    public int feed(int a, int b, int c, int d, int e) throws IllegalStateException {
        if (!reader.hasSpace()) {
            throw new IllegalStateException("the text would be too long");
        }
        reader.takeBytes(a);
        reader.takeBytes(b);
        reader.takeBytes(c);
        reader.takeBytes(d);
        reader.takeBytes(e);
        return reader.fed;
    }

    public int load(int length) throws IllegalArgumentException {
        require(length >= 0 && length <= reader.fed);
        int error = reader.read(length);
        if (error != 0) {
            return error;
        }
        history.keep(bench);
        bench.copyFrom(reader.fresh);
        return bench.primeCount;
    }

    public int errorPosition() {
        return reader.errorAt;
    }

    public int primes() {
        return bench.primeCount;
    }

    public int addPrime(int p) throws IllegalArgumentException, IllegalStateException {
        require(bench.canBeAdded(p));
        if (bench.primeCount >= MOST_PRIMES) {
            throw new IllegalStateException("there are too many primes");
        }
        history.keep(bench);
        bench.addField(p);
        return bench.primeCount - 1;
    }

    public int removePrime(int prime) throws IndexOutOfBoundsException {
        requirePrime(prime);
        history.keep(bench);
        bench.removeField(prime);
        return bench.primeCount;
    }

    public int prime(int prime, int what) throws IndexOutOfBoundsException, IllegalArgumentException {
        Field field = fieldAt(prime);
        require(what >= 0 && what <= 4);
        switch (what) {
            case 0:
                return field.p;
            case 1:
                return field.generator;
            case 2:
                return field.greatestPowerOfTwo();
            case 3:
                return field.factorCount;
            default:
                return field.transformLengths();
        }
    }

    public int root(int prime, int n)
            throws IndexOutOfBoundsException, IllegalArgumentException, NoSuchElementException {
        Field field = fieldAt(prime);
        require(n >= 1 && n <= field.p - 1);
        requireRoot(field, n);
        return field.rootOfOrder(n);
    }

    public int power(int prime, int base, int exponent)
            throws IndexOutOfBoundsException, IllegalArgumentException {
        Field field = fieldAt(prime);
        require(exponent >= 0);
        return field.raise(field.residueOf(base), exponent);
    }

    public int inverse(int prime, int value) throws IndexOutOfBoundsException, NoSuchElementException {
        Field field = fieldAt(prime);
        return field.invert(unitOf(field, value));
    }

    public int order(int prime, int value) throws IndexOutOfBoundsException, NoSuchElementException {
        Field field = fieldAt(prime);
        return field.orderOf(unitOf(field, value));
    }

    public int logarithm(int prime, int value) throws IndexOutOfBoundsException, NoSuchElementException {
        Field field = fieldAt(prime);
        return logarithms.find(field, unitOf(field, value));
    }

    public int primeFor(int n, int above) throws IllegalArgumentException, NoSuchElementException {
        require(n >= 1 && n <= MOST_ORDER && above >= 2 && above < GREATEST_PRIME);
        int found = leastPrime(n, above);
        if (found == NONE) {
            throw new NoSuchElementException("there is no such prime");
        }
        return found;
    }

    public int usable(int kind, int length) throws IllegalArgumentException {
        require(isKind(kind) && isLength(length));
        return bench.usableFields(kind, length);
    }

    public int length(int slot) throws IndexOutOfBoundsException {
        return sequenceAt(slot).count;
    }

    public int term(int slot, int k) throws IndexOutOfBoundsException {
        Sequence sequence = sequenceAt(slot);
        if (k < 0 || k >= sequence.count) {
            throw new IndexOutOfBoundsException("there is no such term");
        }
        return sequence.terms[k];
    }

    public int setSequence(int slot, int length, int from, int step)
            throws IndexOutOfBoundsException, IllegalArgumentException {
        Sequence sequence = sequenceAt(slot);
        require(length >= 0 && length <= MOST_TERMS && Math.abs((long) step) <= GREATEST_STEP);
        // The terms lie between the first and the last one.
        require(length == 0 || isTerm(from) && isTerm(from + (length - 1L) * step));
        history.keep(bench);
        int previous = sequence.count;
        sequence.fillEvenly(length, from, step);
        return previous;
    }

    public int append(int slot, int value)
            throws IndexOutOfBoundsException, IllegalArgumentException, IllegalStateException {
        Sequence sequence = sequenceAt(slot);
        require(isTerm(value));
        if (sequence.isFull()) {
            throw new IllegalStateException("the sequence is full");
        }
        history.keep(bench);
        sequence.add(value);
        return sequence.count;
    }

    public int cut(int slot, int length) throws IndexOutOfBoundsException, IllegalArgumentException {
        Sequence sequence = sequenceAt(slot);
        require(length >= 0 && length <= sequence.count);
        history.keep(bench);
        int removed = sequence.count - length;
        sequence.count = length;
        return removed;
    }

    public int swap(int one, int other) throws IndexOutOfBoundsException {
        requireSlot(one);
        requireSlot(other);
        history.keep(bench);
        bench.exchange(one, other);
        return sequenceAt(one).count;
    }

    public int transform(int prime, int slot, int n, int k)
            throws IndexOutOfBoundsException, IllegalArgumentException, NoSuchElementException {
        Field field = fieldAt(prime);
        Sequence sequence = sequenceAt(slot);
        require(isLength(n) && k >= 0 && k < n);
        requireRoot(field, n);
        int place = field.raise(field.rootOfOrder(n), k);
        return field.evaluate(sequence.terms, sequence.count, place);
    }

    public int cost(int prime, int n, int method)
            throws IndexOutOfBoundsException, IllegalArgumentException, NoSuchElementException {
        Field field = fieldAt(prime);
        require(isLength(n) && method >= BY_DEFINITION && method <= BY_CHIRPS);
        requireRoot(field, n);
        return methodCost(field, n, method);
    }

    public int method(int prime, int n)
            throws IndexOutOfBoundsException, IllegalArgumentException, NoSuchElementException {
        Field field = fieldAt(prime);
        require(isLength(n));
        requireRoot(field, n);
        return cheapestMethod(field, n);
    }

    public int chirp(int prime, int n, int j)
            throws IndexOutOfBoundsException, IllegalArgumentException, NoSuchElementException {
        Field field = fieldAt(prime);
        require(isLength(n) && j >= 0 && j <= 2 * n);
        requireRoot(field, n);
        return field.raise(field.rootOfOrder(n), j * (j - 1) / 2);
    }

    public int longest(int set) throws IndexOutOfBoundsException {
        requireSet(set);
        return bench.longestTransform(set);
    }

    public int size(int kind, int one, int other, int n)
            throws IndexOutOfBoundsException, IllegalStateException, IllegalArgumentException {
        requireTerms(one, other);
        return sizeOf(kind, sequenceAt(one), sequenceAt(other), n);
    }

    public long bound(int one, int other) throws IndexOutOfBoundsException, IllegalStateException {
        requireTerms(one, other);
        return boundOf(sequenceAt(one), sequenceAt(other));
    }

    public long coefficient(int kind, int one, int other, int n, int k)
            throws IndexOutOfBoundsException, IllegalStateException, IllegalArgumentException {
        requireTerms(one, other);
        Sequence a = sequenceAt(one);
        Sequence b = sequenceAt(other);
        int size = sizeOf(kind, a, b, n);
        require(k >= 0 && k < size);
        return coefficientOf(kind, a, b, size, k);
    }

    public boolean isEnough(int set, int one, int other)
            throws IndexOutOfBoundsException, IllegalStateException {
        requireSet(set);
        requireTerms(one, other);
        return bench.areEnough(set, boundOf(sequenceAt(one), sequenceAt(other)));
    }

    public int plan(int kind, int one, int other, int n, int what)
            throws IndexOutOfBoundsException, IllegalStateException, IllegalArgumentException {
        requireTerms(one, other);
        Sequence a = sequenceAt(one);
        Sequence b = sequenceAt(other);
        int size = sizeOf(kind, a, b, n);
        require(what >= 0 && what <= 2);
        plans.find(bench, kind, size, boundOf(a, b));
        int schoolbook = a.count * b.count;
        boolean byTransforms = plans.steps != NONE && plans.steps < schoolbook;
        switch (what) {
            case 0:
                return byTransforms ? plans.steps : schoolbook;
            case 1:
                return byTransforms ? plans.length : 0;
            default:
                return byTransforms ? plans.set : 0;
        }
    }

    public int transformSteps(int kind, int one, int other, int n)
            throws IndexOutOfBoundsException, IllegalStateException, IllegalArgumentException,
            NoSuchElementException {
        requireTerms(one, other);
        Sequence a = sequenceAt(one);
        Sequence b = sequenceAt(other);
        int size = sizeOf(kind, a, b, n);
        plans.find(bench, kind, size, boundOf(a, b));
        if (plans.steps == NONE) {
            throw new NoSuchElementException("there is no plan with transforms");
        }
        return plans.steps;
    }

    public int multiply(int kind, int one, int other, int length, int set)
            throws IndexOutOfBoundsException, IllegalStateException, IllegalArgumentException,
            NoSuchElementException {
        requireSet(set);
        requireTerms(one, other);
        Sequence a = sequenceAt(one);
        Sequence b = sequenceAt(other);
        int size = sizeOf(kind, a, b, length);
        require(isLength(length) && length >= size);
        require(set != 0 && !bench.isProductGreater(set, GREATEST_MODULUS));
        if ((set & ~bench.usableFields(kind, length)) != 0) {
            throw new NoSuchElementException("a prime has no transform of this length");
        }
        history.keep(bench);
        bench.result.prepare(kind, length, size);
        bench.result.takeFields(bench, set);
        multiplier.convolve(a, b, bench.result);
        return size;
    }

    public int product(int what) throws IllegalStateException, IllegalArgumentException {
        Product result = presentProduct();
        require(what >= 0 && what <= 3);
        switch (what) {
            case 0:
                return result.count;
            case 1:
                return result.set;
            case 2:
                return result.kind;
            default:
                return result.length;
        }
    }

    public long value(int k) throws IllegalStateException, IndexOutOfBoundsException {
        Product result = presentProduct();
        requireCoefficient(result, k);
        return result.values[k];
    }

    public int digit(int k, int digit) throws IllegalStateException, IndexOutOfBoundsException {
        Product result = presentProduct();
        requireCoefficient(result, k);
        if (digit < 0 || digit >= result.fieldCount) {
            throw new IndexOutOfBoundsException("there is no such digit");
        }
        return result.mixedDigit(k, digit);
    }

    public int productAt(int x) throws IllegalStateException {
        return presentProduct().evaluate(x);
    }

    public int residue(int prime, int k)
            throws IndexOutOfBoundsException, IllegalStateException, IllegalArgumentException {
        Field field = fieldAt(prime);
        Product result = presentProduct();
        require(result.hasCoefficient(k));
        return field.residueOf(result.values[k]);
    }

    public int agreeing(int one, int other) throws IndexOutOfBoundsException, IllegalStateException {
        requireSlot(one);
        requireSlot(other);
        Product result = presentProduct();
        requireTerms(one, other);
        Sequence a = sequenceAt(one);
        Sequence b = sequenceAt(other);
        if (!isSizeOf(result.kind, a, b, result.count)) {
            return NONE;
        }
        int equal = 0;
        for (int k = 0; k < result.count; k++) {
            if (result.values[k] == coefficientOf(result.kind, a, b, result.count, k)) {
                equal++;
            }
        }
        return equal;
    }

    public int store(int slot) throws IndexOutOfBoundsException, IllegalStateException {
        Sequence sequence = sequenceAt(slot);
        Product result = presentProduct();
        if (!result.isSequence()) {
            throw new IllegalStateException("the product is no sequence");
        }
        history.keep(bench);
        sequence.count = 0;
        for (int k = 0; k < result.count; k++) {
            sequence.add((int) result.values[k]);
        }
        return sequence.count;
    }

    public int undo() throws IllegalStateException {
        if (history.count == 0) {
            throw new IllegalStateException("there is no change to undo");
        }
        history.giveBack(bench);
        return history.count;
    }

    private static void require(boolean holds) {
        if (!holds) {
            throw new IllegalArgumentException("an argument cannot be");
        }
    }

    private void requirePrime(int prime) {
        if (prime < 0 || prime >= bench.primeCount) {
            throw new IndexOutOfBoundsException("there is no such prime");
        }
    }

    private void requireSet(int set) {
        if (set >> bench.primeCount != 0) {
            throw new IndexOutOfBoundsException("the set has a prime that does not exist");
        }
    }

    private void requireSlot(int slot) {
        if (slot < 0 || slot >= SLOTS) {
            throw new IndexOutOfBoundsException("there is no such slot");
        }
    }

    private void requireTerms(int one, int other) {
        Sequence a = sequenceAt(one);
        Sequence b = sequenceAt(other);
        if (a.count == 0 || b.count == 0) {
            throw new IllegalStateException("a sequence is empty");
        }
    }

    private static void requireRoot(Field field, int n) {
        if (!field.hasRoot(n)) {
            throw new NoSuchElementException("there is no root of this order");
        }
    }

    private static void requireCoefficient(Product result, int k) {
        if (!result.hasCoefficient(k)) {
            throw new IndexOutOfBoundsException("there is no such coefficient");
        }
    }

    private Field fieldAt(int prime) {
        requirePrime(prime);
        return bench.fields[prime];
    }

    private Sequence sequenceAt(int slot) {
        requireSlot(slot);
        return bench.sequences[slot];
    }

    private Product presentProduct() {
        if (!bench.result.isPresent()) {
            throw new IllegalStateException("there is no product");
        }
        return bench.result;
    }

    private static int unitOf(Field field, int number) {
        int residue = field.residueOf(number);
        if (residue == 0) {
            throw new NoSuchElementException("the number is a multiple of the prime");
        }
        return residue;
    }

    private static boolean isKind(int kind) {
        return kind >= LINEAR && kind <= TWISTED;
    }

    private static boolean isLength(int n) {
        return n >= 1 && n <= MOST_LENGTH;
    }

    private static boolean isTerm(long number) {
        return number >= -GREATEST_TERM && number <= GREATEST_TERM;
    }

    private static boolean isPrime(int n) {
        if (n < 2) {
            return false;
        }
        for (int d = 2; d <= n / d; d++) {
            if (n % d == 0) {
                return false;
            }
        }
        return true;
    }

    private static int leastPrime(int n, int above) {
        if (n < 1) {
            return NONE;
        }
        int first = ((above - 1) / n + 1) * n + 1;
        for (int p = first; p <= GREATEST_PRIME; p += n) {
            if (isPrime(p)) {
                return p;
            }
        }
        return NONE;
    }

    private static int sizeOf(int kind, Sequence a, Sequence b, int n) {
        require(isKind(kind));
        if (kind == LINEAR) {
            return a.count + b.count - 1;
        }
        require(isLength(n) && isSizeOf(kind, a, b, n));
        return n;
    }

    private static boolean isSizeOf(int kind, Sequence a, Sequence b, int n) {
        if (kind == LINEAR) {
            return n == a.count + b.count - 1;
        }
        return n >= a.count && n >= b.count;
    }

    private static long boundOf(Sequence a, Sequence b) {
        return (long) Math.min(a.count, b.count) * a.greatestSize() * b.greatestSize();
    }

    private static long coefficientOf(int kind, Sequence a, Sequence b, int size, int k) {
        long plain = linearCoefficient(a, b, k);
        if (kind == LINEAR) {
            return plain;
        }
        // No sum of two positions reaches 2 * size, so there is one place more that falls on k.
        long wrapped = linearCoefficient(a, b, k + size);
        return kind == CYCLIC ? plain + wrapped : plain - wrapped;
    }

    private static long linearCoefficient(Sequence a, Sequence b, int k) {
        long sum = 0;
        for (int i = 0; i < a.count; i++) {
            int j = k - i;
            if (j >= 0 && j < b.count) {
                sum += (long) a.terms[i] * b.terms[j];
            }
        }
        return sum;
    }

    private static int methodCost(Field field, int n, int method) {
        switch (method) {
            case BY_DEFINITION:
                return n * n;
            case BY_SPLITTING:
                return splittingCost(n);
            default:
                return chirpCost(field, n);
        }
    }

    private static int splittingCost(int n) {
        int sum = 0;
        int rest = n;
        for (int f = 2; f <= n; f++) {
            while (rest > 1 && rest % f == 0) {
                rest /= f;
                sum += f - 1;
            }
        }
        return n * sum;
    }

    private static int chirpCost(Field field, int n) {
        int m = 1;
        int t = 0;
        while (m < 2 * n - 1 && t < 30) {
            m *= 2;
            t++;
        }
        return field.hasRoot(m) ? 3 * m * t + m + 2 * n : NONE;
    }

    private static int cheapestMethod(Field field, int n) {
        int best = BY_DEFINITION;
        for (int method = BY_SPLITTING; method <= BY_CHIRPS; method++) {
            int cost = methodCost(field, n, method);
            if (cost != NONE && cost < methodCost(field, n, best)) {
                best = method;
            }
        }
        return best;
    }

    private static void copyFields(Field[] from, Field[] to) {
        for (int i = 0; i < from.length && i < to.length; i++) {
            to[i] = from[i];
        }
    }

    /** The numbers modulo a prime. It never changes, so states that are kept for undo share it. */
    private static final class Field {
        // 2 * 3 * 5 * 7 * 11 * 13 * 17 is greater than every p - 1.
        private static final int MOST_FACTORS = 6;

        private final int p;
        private final int[] factors = new int[MOST_FACTORS];
        private final int factorCount;
        private final int generator;

        Field(int prime) {
            // p divides in many places: here it is made sure that it is never 0.
            p = Math.max(prime, LEAST_PRIME);
            factorCount = findFactors();
            generator = leastGenerator();
        }

        private int findFactors() {
            int found = 0;
            int rest = p - 1;
            for (int q = 2; q <= rest / q; q++) {
                if (rest % q == 0 && found < MOST_FACTORS) {
                    factors[found++] = q;
                }
                while (rest > 1 && rest % q == 0) {
                    rest /= q;
                }
            }
            if (rest > 1 && found < MOST_FACTORS) {
                factors[found++] = rest;
            }
            return found;
        }

        private int leastGenerator() {
            for (int g = 2; g < p; g++) {
                boolean isGenerator = true;
                for (int i = 0; i < factorCount && isGenerator; i++) {
                    isGenerator = raise(g, (p - 1) / factors[i]) != 1;
                }
                if (isGenerator) {
                    return g;
                }
            }
            return 1;
        }

        int residueOf(long number) {
            return (int) Math.floorMod(number, (long) p);
        }

        int times(int x, int y) {
            return (int) ((long) x * y % p);
        }

        int raise(int base, int exponent) {
            long result = 1;
            long square = base;
            for (int left = exponent; left > 0; left >>= 1) {
                if ((left & 1) != 0) {
                    result = result * square % p;
                }
                square = square * square % p;
            }
            return (int) result;
        }

        int invert(int unit) {
            return raise(unit, p - 2);
        }

        int orderOf(int unit) {
            int order = p - 1;
            for (int i = 0; i < factorCount; i++) {
                int q = factors[i];
                while (q > 1 && order > 1 && order % q == 0 && raise(unit, order / q) == 1) {
                    order /= q;
                }
            }
            return order;
        }

        boolean hasRoot(int n) {
            return n > 0 && (p - 1) % n == 0;
        }

        int rootOfOrder(int n) {
            return n > 0 ? raise(generator, (p - 1) / n) : 1;
        }

        int greatestPowerOfTwo() {
            return (p - 1) & -(p - 1);
        }

        int transformLengths() {
            int lengths = 0;
            for (int n = 1; n <= MOST_LENGTH; n++) {
                if (hasRoot(n)) {
                    lengths++;
                }
            }
            return lengths;
        }

        int evaluate(int[] terms, int count, int x) {
            long sum = 0;
            for (int j = Math.min(count, terms.length) - 1; j >= 0; j--) {
                sum = (sum * x + terms[j]) % p;
            }
            return residueOf(sum);
        }
    }

    /** The terms of a slot. */
    private static final class Sequence {
        private final int[] terms = new int[MOST_TERMS];
        private int count;

        boolean isFull() {
            return count >= MOST_TERMS;
        }

        void add(int value) {
            if (!isFull()) {
                terms[count++] = value;
            }
        }

        void fillEvenly(int length, int from, int step) {
            count = 0;
            for (int k = 0; k < length; k++) {
                add(from + k * step);
            }
        }

        int greatestSize() {
            int greatest = 0;
            for (int k = 0; k < count; k++) {
                greatest = Math.max(greatest, Math.abs(terms[k]));
            }
            return greatest;
        }

        void copyFrom(Sequence other) {
            count = other.count;
            System.arraycopy(other.terms, 0, terms, 0, MOST_TERMS);
        }
    }

    /** The coefficients that were multiplied last, with the primes by which they were. */
    private static final class Product {
        private final long[] values = new long[MOST_LENGTH];
        private final Field[] fields = new Field[MOST_PRIMES];
        private int fieldCount;
        private int count;
        private int kind;
        private int set;
        private int length;
        private long modulus = 1;

        boolean isPresent() {
            return count > 0;
        }

        boolean hasCoefficient(int k) {
            return k >= 0 && k < count;
        }

        void clear() {
            count = 0;
        }

        void prepare(int newKind, int newLength, int size) {
            kind = newKind;
            length = newLength;
            count = Math.min(size, MOST_LENGTH);
            for (int k = 0; k < count; k++) {
                values[k] = 0;
            }
        }

        void takeFields(Bench bench, int newSet) {
            set = newSet;
            fieldCount = 0;
            modulus = 1;
            for (int i = 0; i < bench.primeCount; i++) {
                if ((set >> i & 1) != 0) {
                    fields[fieldCount++] = bench.fields[i];
                    modulus *= bench.fields[i].p;
                }
            }
        }

        void centre() {
            for (int k = 0; k < count; k++) {
                if (values[k] > modulus / 2) {
                    values[k] -= modulus;
                }
            }
        }

        int mixedDigit(int k, int digit) {
            long rest = values[k] < 0 ? values[k] + modulus : values[k];
            for (int i = 0; i < digit; i++) {
                rest /= fields[i].p;
            }
            return fields[digit].residueOf(rest);
        }

        int evaluate(int x) {
            long sum = 0;
            for (int k = count - 1; k >= 0; k--) {
                long coefficient = Math.floorMod(values[k], (long) PLACE_MODULUS);
                sum = Math.floorMod(sum * x + coefficient, (long) PLACE_MODULUS);
            }
            return (int) sum;
        }

        boolean isSequence() {
            if (count > MOST_TERMS) {
                return false;
            }
            for (int k = 0; k < count; k++) {
                if (!isTerm(values[k])) {
                    return false;
                }
            }
            return true;
        }

        void copyFrom(Product other) {
            fieldCount = other.fieldCount;
            count = other.count;
            kind = other.kind;
            set = other.set;
            length = other.length;
            modulus = other.modulus;
            System.arraycopy(other.values, 0, values, 0, MOST_LENGTH);
            copyFields(other.fields, fields);
        }
    }

    /** All that undo brings back: primes, sequences and the product. */
    private static final class Bench {
        private final Field[] fields = new Field[MOST_PRIMES];
        private final Sequence[] sequences = new Sequence[SLOTS];
        private final Product result = new Product();
        private int primeCount;

        Bench() {
            for (int slot = 0; slot < SLOTS; slot++) {
                sequences[slot] = new Sequence();
            }
        }

        boolean canBeAdded(int p) {
            if (p < LEAST_PRIME || p > GREATEST_PRIME || !isPrime(p)) {
                return false;
            }
            for (int i = 0; i < primeCount; i++) {
                if (fields[i].p == p) {
                    return false;
                }
            }
            return true;
        }

        void addField(int p) {
            if (primeCount < MOST_PRIMES) {
                fields[primeCount++] = new Field(p);
            }
        }

        void removeField(int prime) {
            primeCount--;
            for (int i = prime; i < primeCount; i++) {
                fields[i] = fields[i + 1];
            }
        }

        void exchange(int one, int other) {
            Sequence kept = sequences[one];
            sequences[one] = sequences[other];
            sequences[other] = kept;
        }

        int usableFields(int kind, int length) {
            int order = kind == TWISTED ? 2 * length : length;
            int set = 0;
            for (int i = 0; i < primeCount; i++) {
                if (fields[i].hasRoot(order)) {
                    set |= 1 << i;
                }
            }
            return set;
        }

        int longestTransform(int set) {
            for (int n = MOST_LENGTH; n > 1; n--) {
                if ((set & ~usableFields(CYCLIC, n)) == 0) {
                    return n;
                }
            }
            return 1;
        }

        boolean areEnough(int set, long bound) {
            return isProductGreater(set, 2 * bound);
        }

        /** Tells whether there are primes in the set and their product is greater than the limit. */
        boolean isProductGreater(int set, long limit) {
            long product = 1;
            for (int i = 0; i < primeCount; i++) {
                if ((set >> i & 1) != 0) {
                    // The product may be too great for a long: it is compared before it is made.
                    if (product > limit / fields[i].p) {
                        return true;
                    }
                    product *= fields[i].p;
                }
            }
            return false;
        }

        void clear() {
            primeCount = 0;
            for (int slot = 0; slot < SLOTS; slot++) {
                sequences[slot].count = 0;
            }
            result.clear();
        }

        void copyFrom(Bench other) {
            primeCount = other.primeCount;
            copyFields(other.fields, fields);
            for (int slot = 0; slot < SLOTS; slot++) {
                sequences[slot].copyFrom(other.sequences[slot]);
            }
            result.copyFrom(other.result);
        }
    }

    /** The benches before the latest changes, in a ring that is used again and again. */
    private static final class History {
        private final Bench[] kept = new Bench[MOST_CHANGES];
        private int next;
        private int count;

        History() {
            for (int i = 0; i < MOST_CHANGES; i++) {
                kept[i] = new Bench();
            }
        }

        void keep(Bench present) {
            kept[next].copyFrom(present);
            next = (next + 1) % MOST_CHANGES;
            count = Math.min(count + 1, MOST_CHANGES);
        }

        void giveBack(Bench present) {
            next = (next + MOST_CHANGES - 1) % MOST_CHANGES;
            count--;
            present.copyFrom(kept[next]);
        }
    }

    /** Finds logarithms by powers that are one step apart and others that are many steps apart. */
    private static final class LogarithmTable {
        // Its square is greater than every p - 1.
        private static final int STRIDE = 317;
        private static final int PLACES = 1024;

        // A power is never 0, so that 0 stands for a free place.
        private final int[] powers = new int[PLACES];
        private final int[] exponents = new int[PLACES];

        int find(Field field, int unit) {
            fill(field);
            int back = field.invert(field.raise(field.generator, STRIDE));
            int moved = unit;
            for (int strides = 0; strides < STRIDE; strides++) {
                int place = placeOf(moved);
                if (powers[place] == moved) {
                    return strides * STRIDE + exponents[place];
                }
                moved = field.times(moved, back);
            }
            return NONE;
        }

        private void fill(Field field) {
            for (int place = 0; place < PLACES; place++) {
                powers[place] = 0;
            }
            int power = 1;
            // Behind p - 2 the powers come again with exponents that are too great.
            for (int exponent = 0; exponent < STRIDE && exponent < field.p - 1; exponent++) {
                int place = placeOf(power);
                powers[place] = power;
                exponents[place] = exponent;
                power = field.times(power, field.generator);
            }
        }

        /** The place where a power stands, or the free one where it would be put. */
        private int placeOf(int power) {
            int place = power & (PLACES - 1);
            for (int tries = 0; tries < PLACES; tries++) {
                if (powers[place] == power || powers[place] == 0) {
                    return place;
                }
                place = (place + 1) & (PLACES - 1);
            }
            return place;
        }
    }

    /** Convolves by transforms prime by prime and widens the coefficients by each prime. */
    private static final class Multiplier {
        private final int[] spectrum = new int[MOST_LENGTH];

        void convolve(Sequence a, Sequence b, Product result) {
            long radix = 1;
            for (int i = 0; i < result.fieldCount; i++) {
                Field field = result.fields[i];
                // Places at odd powers of a root of order 2 * M make products beyond M count negatively.
                int twist = result.kind == TWISTED ? field.rootOfOrder(2 * result.length) : 1;
                multiplySpectra(field, a, b, result.length, twist);
                widen(result, field, twist, radix);
                radix *= field.p;
            }
            result.centre();
        }

        private void multiplySpectra(Field field, Sequence a, Sequence b, int length, int twist) {
            int root = field.rootOfOrder(length);
            int place = twist;
            for (int k = 0; k < length && k < MOST_LENGTH; k++) {
                int ofA = field.evaluate(a.terms, a.count, place);
                int ofB = field.evaluate(b.terms, b.count, place);
                spectrum[k] = field.times(ofA, ofB);
                place = field.times(place, root);
            }
        }

        /** Transforms back and puts the next mixed digit on each coefficient. */
        private void widen(Product result, Field field, int twist, long radix) {
            int rootBack = field.invert(field.rootOfOrder(result.length));
            int twistBack = field.invert(twist);
            int radixBack = field.invert(field.residueOf(radix));
            int factor = field.invert(field.residueOf(result.length));
            int place = 1;
            for (int k = 0; k < result.count; k++) {
                int residue = field.times(factor, field.evaluate(spectrum, result.length, place));
                int missing = field.residueOf((long) residue - field.residueOf(result.values[k]));
                result.values[k] += radix * field.times(missing, radixBack);
                place = field.times(place, rootBack);
                factor = field.times(factor, twistBack);
            }
        }
    }

    /** Finds the plan with the fewest steps among those that use transforms. */
    private static final class PlanFinder {
        private final int[] fieldSteps = new int[MOST_PRIMES];
        private final boolean[] isEnough = new boolean[1 << MOST_PRIMES];
        private int steps;
        private int length;
        private int set;

        /** Leaves NONE as the steps if there is no such plan. */
        void find(Bench bench, int kind, int size, long bound) {
            steps = NONE;
            length = 0;
            set = 0;
            for (int tried = 0; tried < 1 << bench.primeCount; tried++) {
                isEnough[tried] = bench.areEnough(tried, bound);
            }
            int greatest = kind == LINEAR ? MOST_LENGTH : size;
            for (int m = size; m <= greatest; m++) {
                int usable = bench.usableFields(kind, m);
                measureFields(bench, kind, m, usable);
                for (int tried = 1; tried <= usable; tried++) {
                    if ((tried & ~usable) == 0 && isEnough[tried]) {
                        compare(m, tried);
                    }
                }
            }
        }

        private void measureFields(Bench bench, int kind, int m, int usable) {
            int around = kind == TWISTED ? 4 * m : m;
            for (int i = 0; i < bench.primeCount; i++) {
                if ((usable >> i & 1) != 0) {
                    int best = cheapestMethod(bench.fields[i], m);
                    fieldSteps[i] = 3 * methodCost(bench.fields[i], m, best) + around;
                }
            }
        }

        private void compare(int m, int tried) {
            int r = 0;
            int sum = 0;
            for (int i = 0; i < MOST_PRIMES; i++) {
                if ((tried >> i & 1) != 0) {
                    sum += fieldSteps[i];
                    r++;
                }
            }
            sum += m * r * (r - 1) / 2;
            if (steps == NONE || sum < steps) {
                steps = sum;
                length = m;
                set = tried;
            }
        }
    }

    /** Collects the bytes of a text and reads a bench from them up to the first error. */
    private static final class TextReader {
        private static final int GREATEST_NUMBER = 1000000;

        private final byte[] text = new byte[MOST_BYTES];
        private final Bench fresh = new Bench();
        private int fed;
        private int end;
        private int at;
        private int error;
        private int errorAt = NONE;

        boolean hasSpace() {
            return fed + FED_BYTES <= MOST_BYTES;
        }

        void takeBytes(int four) {
            for (int shift = 24; shift >= 0 && fed < MOST_BYTES; shift -= 8) {
                text[fed++] = (byte) (four >> shift);
            }
        }

        /** Reads the fresh bench; answers the error code, 0 if there is no error. */
        int read(int length) {
            end = Math.min(length, fed);
            fed = 0;
            at = 0;
            error = 0;
            errorAt = NONE;
            fresh.clear();
            passSpaces();
            for (int statements = 0; statements < MOST_BYTES && error == 0 && at < end; statements++) {
                int start = at;
                if (passWord("prime")) {
                    readPrime(start);
                } else if (passWord("sequence")) {
                    readSequence();
                } else {
                    fail(SYNTAX_ERROR, start);
                }
                passSemicolon();
            }
            return error;
        }

        private void readPrime(int start) {
            if (fresh.primeCount >= MOST_PRIMES) {
                fail(TOO_MANY, start);
                return;
            }
            passSpaces();
            int numberAt = at;
            int p = passNumber();
            if (p == NONE) {
                fail(SYNTAX_ERROR, numberAt);
            } else if (!fresh.canBeAdded(p)) {
                fail(VALUE_ERROR, numberAt);
            } else {
                fresh.addField(p);
            }
        }

        private void readSequence() {
            passSpaces();
            int numberAt = at;
            int slot = passNumber();
            if (slot == NONE) {
                fail(SYNTAX_ERROR, numberAt);
            } else if (slot < 0 || slot >= SLOTS) {
                fail(VALUE_ERROR, numberAt);
            } else {
                readTerms(fresh.sequences[slot]);
            }
        }

        private void readTerms(Sequence sequence) {
            sequence.count = 0;
            passSpaces();
            // One term more than there may be, so that its error is found.
            for (int k = 0; k <= MOST_TERMS && error == 0 && (byteAt(at) == '-' || isDigit(byteAt(at))); k++) {
                readTerm(sequence);
                passSpaces();
            }
        }

        private void readTerm(Sequence sequence) {
            boolean isNegative = byteAt(at) == '-';
            if (isNegative) {
                if (sequence.isFull()) {
                    fail(TOO_MANY, at);
                    return;
                }
                at++;
                passSpaces();
            }
            int numberAt = at;
            int size = passNumber();
            if (size == NONE) {
                fail(SYNTAX_ERROR, numberAt);
            } else if (size > GREATEST_TERM) {
                fail(VALUE_ERROR, numberAt);
            } else if (sequence.isFull()) {
                fail(TOO_MANY, numberAt);
            } else {
                sequence.add(isNegative ? -size : size);
            }
        }

        /** Passes the end of a statement that has no error, and the spaces behind it. */
        private void passSemicolon() {
            if (error != 0) {
                return;
            }
            passSpaces();
            if (byteAt(at) == ';') {
                at++;
                passSpaces();
            } else {
                fail(SYNTAX_ERROR, at);
            }
        }

        private void passSpaces() {
            while (at < end && byteAt(at) == ' ') {
                at++;
            }
        }

        /** Passes a word if it is the one that stands here. */
        private boolean passWord(String word) {
            for (int i = 0; i < word.length(); i++) {
                if (byteAt(at + i) != word.charAt(i)) {
                    return false;
                }
            }
            if (isLetter(byteAt(at + word.length()))) {
                return false;
            }
            at += word.length();
            return true;
        }

        /** Passes a number and answers it, capped if it is huge; NONE if none stands here. */
        private int passNumber() {
            if (!isDigit(byteAt(at))) {
                return NONE;
            }
            int number = 0;
            while (at < end && isDigit(byteAt(at))) {
                number = Math.min(10 * number + byteAt(at) - '0', GREATEST_NUMBER);
                at++;
            }
            return number;
        }

        /** A byte of the text from 0 to 255; NONE behind its end. */
        private int byteAt(int position) {
            return position >= 0 && position < end ? text[position] & 255 : NONE;
        }

        private static boolean isDigit(int sign) {
            return sign >= '0' && sign <= '9';
        }

        private static boolean isLetter(int sign) {
            return sign >= 'a' && sign <= 'z';
        }

        private void fail(int code, int position) {
            error = code;
            errorAt = position;
        }
    }
}
