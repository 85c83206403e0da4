import java.math.BigInteger;

/** Promises 33 to 40: multiply and what can be asked of the product. */
final class ProductTest extends Suite {
    @Override
    void run() {
        multiplying();
        recombining();
        multiplyRefuses();
        questions();
        comparing();
        storing();
    }

    private static ConvolutionBench small() {
        ConvolutionBench x = withPrimes(17, 13, 97);
        set(x, 0, 1, 2, 3, 4);
        set(x, 1, 5, 6);
        return x;
    }

    private void multiplying() {
        test("promise 33: linear, cyclic and twisted convolutions", () -> {
            ConvolutionBench x = small();
            due(5, () -> x.multiply(0, 0, 1, 6, 4));
            due("5 16 27 38 24", () -> values(x));
            due(4, () -> x.multiply(1, 0, 1, 4, 3));
            due("29 16 27 38", () -> values(x));
            due(4, () -> x.multiply(2, 0, 1, 4, 4));
            due("-19 16 27 38", () -> values(x));
            due(3, () -> x.multiply(0, 1, 1, 48, 4));
            due("25 -37 36", () -> values(x));
        });
        test("promise 33: primes that are not enough leave residues of the least size", () -> {
            ConvolutionBench x = small();
            x.multiply(1, 0, 1, 4, 1);
            due("-5 -1 -7 4", () -> values(x));
            x.multiply(0, 0, 1, 6, 2);
            due("5 3 1 -1 -2", () -> values(x));
        });
        test("promise 33: many lengths by many sets, against the definition", () -> {
            ConvolutionBench x = withPrimes(55441, 65521, 30241, 97, 3, 12289);
            x.setSequence(0, 32, -9999, 645);
            x.setSequence(1, 7, 9000, -999);
            set(x, 2, -4);
            for (int kind = 0; kind <= 2; kind++) {
                for (int length = 1; length <= 64; length++) {
                    for (int set = 1; set < 64; set++) {
                        againstDefinition(x, kind, 1, 2, length, set);
                        if (set % 5 == 1) {
                            againstDefinition(x, kind, 0, 1, length, set);
                            againstDefinition(x, kind, 0, 0, length, set);
                        }
                    }
                }
            }
        });
    }

    private void againstDefinition(ConvolutionBench x, int kind, int one, int other, int length, int set) {
        int longest = Math.max(x.length(one), x.length(other));
        int size = kind == 0 ? x.length(one) + x.length(other) - 1 : length;
        BigInteger modulus = modulus(x, set);
        if (length < Math.max(size, longest) || (set & ~x.usable(kind, length)) != 0
                || modulus.compareTo(BigInteger.valueOf(4_000_000_000_000_000_000L)) > 0) {
            return;
        }
        due(size, () -> x.multiply(kind, one, other, length, set));
        for (int k = 0; k < size; k++) {
            long whole = x.coefficient(kind, one, other, length, k);
            BigInteger residue = BigInteger.valueOf(whole).mod(modulus);
            BigInteger least = residue.shiftLeft(1).compareTo(modulus) > 0 ? residue.subtract(modulus) : residue;
            int at = k;
            due(least.longValueExact(), () -> x.value(at));
            if (x.isEnough(set, one, other)) {
                due(whole, () -> x.value(at));
            }
            digitsOf(x, set, k, residue);
        }
    }

    private void digitsOf(ConvolutionBench x, int set, int k, BigInteger residue) {
        BigInteger rest = residue;
        int digit = 0;
        for (int i = 0; i < x.primes(); i++) {
            if ((set >> i & 1) != 0) {
                BigInteger p = BigInteger.valueOf(x.prime(i, 0));
                int at = digit++;
                due(rest.mod(p).intValueExact(), () -> x.digit(k, at));
                rest = rest.divide(p);
            }
        }
    }

    private static BigInteger modulus(ConvolutionBench x, int set) {
        BigInteger product = BigInteger.ONE;
        for (int i = 0; i < x.primes(); i++) {
            if ((set >> i & 1) != 0) {
                product = product.multiply(BigInteger.valueOf(x.prime(i, 0)));
            }
        }
        return product;
    }

    private void recombining() {
        test("promises 33, 35, 36: a modulus near the limit", () -> {
            ConvolutionBench x = withPrimes(99991, 99989, 99971, 3989);
            due(true, () -> modulus(x, 15).compareTo(BigInteger.valueOf(3_980_000_000_000_000_000L)) > 0);
            set(x, 1, -9999);
            set(x, 2, 9999);
            due(1, () -> x.multiply(0, 1, 2, 1, 15));
            due(-99980001L, () -> x.value(0));
            due(-99980001L, () -> wholeOfDigits(x, 15).subtract(modulus(x, 15)).longValueExact());
            due(1, () -> x.multiply(0, 1, 1, 2, 15));
            due(99980001L, () -> x.value(0));
            due(99980001L, () -> wholeOfDigits(x, 15).longValueExact());
        });
    }

    private static BigInteger wholeOfDigits(ConvolutionBench x, int set) {
        BigInteger whole = BigInteger.ZERO;
        BigInteger radix = BigInteger.ONE;
        int digit = 0;
        for (int i = 0; i < x.primes(); i++) {
            if ((set >> i & 1) != 0) {
                whole = whole.add(radix.multiply(BigInteger.valueOf(x.digit(0, digit++))));
                radix = radix.multiply(BigInteger.valueOf(x.prime(i, 0)));
            }
        }
        return whole;
    }

    private void multiplyRefuses() {
        test("promise 33: wrong inputs", () -> {
            ConvolutionBench x = small();
            x.multiply(0, 0, 1, 6, 4);
            refused(x, INDEX, () -> x.multiply(0, 0, 1, 6, 8), () -> x.multiply(0, 0, 1, 6, -1),
                    () -> x.multiply(9, 4, 3, 6, 4), () -> x.multiply(0, 0, -1, 6, 4), () -> x.multiply(0, 0, 3, 0, 8));
            refused(x, STATE, () -> x.multiply(9, 0, 2, 0, 0), () -> x.multiply(0, 2, 0, 6, 4));
            refused(x, ARGUMENT, () -> x.multiply(3, 0, 1, 6, 4), () -> x.multiply(-1, 0, 1, 6, 4),
                    () -> x.multiply(0, 0, 1, 4, 4), () -> x.multiply(0, 0, 1, 65, 4), () -> x.multiply(0, 0, 1, 6, 0),
                    () -> x.multiply(1, 0, 1, 3, 4), () -> x.multiply(2, 0, 1, 65, 4), () -> x.multiply(1, 0, 1, 0, 4),
                    () -> x.multiply(0, 0, 1, -6, 4), () -> x.multiply(1, 0, 1, 5, 0));
            refused(x, ELEMENT, () -> x.multiply(0, 0, 1, 5, 4), () -> x.multiply(2, 0, 1, 4, 2),
                    () -> x.multiply(2, 0, 1, 4, 6), () -> x.multiply(1, 0, 1, 64, 4));
        });
        test("promise 33: a product of primes that is too great", () -> {
            ConvolutionBench x = withPrimes(99991, 99989, 99971, 4003, 100003, 3);
            set(x, 0, 1);
            refused(x, ARGUMENT, () -> x.multiply(0, 0, 0, 1, 15), () -> x.multiply(0, 0, 0, 1, 63),
                    () -> x.multiply(0, 0, 0, 4, 63), () -> x.multiply(2, 0, 0, 1, 31));
            due(1, () -> x.multiply(0, 0, 0, 1, 7));
            due(1, () -> x.multiply(0, 0, 0, 1, 39));
        });
    }

    private void questions() {
        test("promise 34: product", () -> {
            ConvolutionBench x = small();
            refused(x, STATE, () -> x.product(0), () -> x.product(9));
            x.multiply(2, 0, 1, 8, 4);
            due(8, () -> x.product(0));
            due(4, () -> x.product(1));
            due(2, () -> x.product(2));
            due(8, () -> x.product(3));
            x.multiply(0, 0, 1, 6, 4);
            due(5, () -> x.product(0));
            due(0, () -> x.product(2));
            due(6, () -> x.product(3));
            x.removePrime(0);
            due(4, () -> x.product(1));
            refused(x, ARGUMENT, () -> x.product(4), () -> x.product(-1));
        });
        test("promise 35: value", () -> {
            ConvolutionBench x = small();
            refused(x, STATE, () -> x.value(0), () -> x.value(-1));
            x.multiply(0, 0, 1, 6, 4);
            due(24, () -> x.value(4));
            refused(x, INDEX, () -> x.value(5), () -> x.value(-1), () -> x.value(Integer.MAX_VALUE));
            x.setSequence(0, 1, 0, 0);
            x.removePrime(2);
            due(24, () -> x.value(4));
        });
        test("promise 36: digit", () -> {
            ConvolutionBench x = small();
            refused(x, STATE, () -> x.digit(0, 0), () -> x.digit(-1, -1));
            x.multiply(1, 0, 1, 4, 3);
            due(12, () -> x.digit(0, 0));
            due(1, () -> x.digit(0, 1));
            refused(x, INDEX, () -> x.digit(0, 2), () -> x.digit(0, -1), () -> x.digit(4, 0), () -> x.digit(-1, 0));
            x.removePrime(0);
            x.addPrime(5);
            due(12, () -> x.digit(0, 0));
            due(1, () -> x.digit(0, 1));
            x.multiply(2, 0, 1, 4, 2);
            due(78, () -> x.digit(0, 0));
        });
        test("promise 37: productAt", () -> {
            ConvolutionBench x = small();
            refused(x, STATE, () -> x.productAt(0));
            x.multiply(2, 0, 1, 4, 4);
            for (int at : new int[] {0, 1, -1, 2, 1000002, 1000003, Integer.MAX_VALUE, Integer.MIN_VALUE, -777777}) {
                BigInteger place = BigInteger.valueOf(at);
                BigInteger sum = BigInteger.ZERO;
                for (int k = 0; k < 4; k++) {
                    sum = sum.add(place.pow(k).multiply(BigInteger.valueOf(x.value(k))));
                }
                long want = sum.mod(BigInteger.valueOf(1000003)).longValue();
                due(want, () -> x.productAt(at));
            }
            due(1000003 - 19, () -> x.productAt(0));
        });
        test("promise 38: residue", () -> {
            ConvolutionBench x = small();
            refused(x, INDEX, () -> x.residue(3, 0), () -> x.residue(-1, 0));
            refused(x, STATE, () -> x.residue(0, 0), () -> x.residue(0, -1));
            x.multiply(2, 0, 1, 4, 4);
            due(17 * 2 - 19, () -> x.residue(0, 0));
            due(78, () -> x.residue(2, 0));
            due(1, () -> x.residue(1, 2));
            refused(x, INDEX, () -> x.residue(3, 9));
            refused(x, ARGUMENT, () -> x.residue(0, 4), () -> x.residue(0, -1));
            x.removePrime(2);
            due(12, () -> x.residue(1, 3));
        });
    }

    private void comparing() {
        test("promise 39: agreeing", () -> {
            ConvolutionBench x = small();
            refused(x, STATE, () -> x.agreeing(0, 1), () -> x.agreeing(2, 3));
            x.multiply(0, 0, 1, 6, 4);
            due(5, () -> x.agreeing(0, 1));
            due(5, () -> x.agreeing(1, 0));
            due(NONE, () -> x.agreeing(0, 0));
            due(NONE, () -> x.agreeing(1, 1));
            set(x, 2, 1, 2, 3, 9);
            due(3, () -> x.agreeing(2, 1));
            x.multiply(1, 1, 1, 3, 4);
            due(NONE, () -> x.agreeing(0, 1));
            due(NONE, () -> x.agreeing(1, 0));
            due(2, () -> x.agreeing(1, 1));
            set(x, 2, 5);
            due(1, () -> x.agreeing(1, 2));
            x.multiply(2, 1, 1, 3, 4);
            due(2, () -> x.agreeing(1, 1));
            refused(x, STATE, () -> x.agreeing(1, 3), () -> x.agreeing(3, 1));
            refused(x, INDEX, () -> x.agreeing(3, 4), () -> x.agreeing(-1, 3));
            refused(new ConvolutionBench(), INDEX, () -> new ConvolutionBench().agreeing(0, 4));
        });
    }

    private void storing() {
        test("promise 40: store", () -> {
            ConvolutionBench x = small();
            refused(x, STATE, () -> x.store(0));
            refused(x, INDEX, () -> x.store(4), () -> x.store(-1));
            x.multiply(2, 0, 1, 4, 4);
            due(4, () -> x.store(0));
            due(" -19 16 27 38", () -> terms(x, 0));
            due("-19 16 27 38", () -> values(x));
            due(4, () -> x.store(3));
            due(" -19 16 27 38", () -> terms(x, 3));
            due(6, () -> load(x, "prime 3;prime 5;prime 7;prime 11;prime 13;prime 17;sequence 0 1;"));
            refused(x, STATE, () -> x.store(0));
        });
        test("promise 40: products that are no sequences", () -> {
            ConvolutionBench x = withPrimes(12289, 40961);
            x.setSequence(0, 32, 1, 0);
            x.multiply(1, 0, 0, 32, 1);
            due(32, () -> x.store(1));
            x.setSequence(2, 2, 1, 0);
            x.multiply(0, 1, 2, 64, 3);
            refused(x, STATE, () -> x.store(1));
            set(x, 0, 101, 0);
            set(x, 1, 99, 0);
            x.multiply(1, 0, 1, 2, 3);
            due(2, () -> x.store(2));
            due(9999, () -> x.term(2, 0));
            set(x, 1, 100, -100);
            x.multiply(1, 1, 1, 2, 3);
            due("20000 -20000", () -> values(x));
            refused(x, STATE, () -> x.store(2));
            set(x, 0, 100);
            set(x, 1, 0, -100);
            x.multiply(1, 0, 1, 2, 3);
            due("0 -10000", () -> values(x));
            refused(x, STATE, () -> x.store(2));
            set(x, 1, 0, 100);
            x.multiply(1, 0, 1, 2, 3);
            refused(x, STATE, () -> x.store(2));
            set(x, 0, -99);
            set(x, 1, 101);
            x.multiply(0, 0, 1, 2, 3);
            due(1, () -> x.store(2));
            due(-9999, () -> x.term(2, 0));
        });
    }
}
