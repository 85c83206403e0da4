/** Promises 5 to 15: primes, their roots, powers, orders and logarithms. */
final class PrimesTest extends Suite {
    @Override
    void run() {
        addingAndRemoving();
        descriptions();
        rootsAndPowers();
        ordersAndLogarithms();
        searches();
    }

    private void addingAndRemoving() {
        test("promise 5: primes counts", () -> {
            ConvolutionBench x = withPrimes(3, 5, 7, 11, 13, 17);
            due(6, x::primes);
            x.removePrime(2);
            due(5, x::primes);
        });
        test("promise 6: addPrime numbers the primes in order", () -> {
            ConvolutionBench x = new ConvolutionBench();
            due(0, () -> x.addPrime(100003));
            due(1, () -> x.addPrime(3));
            due(2, () -> x.addPrime(65537));
            due(65537, () -> x.prime(2, 0));
        });
        test("promise 6: addPrime refuses what is no prime, out of range or there", () -> {
            ConvolutionBench x = withPrimes(17);
            refused(x, ARGUMENT, () -> x.addPrime(17), () -> x.addPrime(2), () -> x.addPrime(1), () -> x.addPrime(0),
                    () -> x.addPrime(-7), () -> x.addPrime(9), () -> x.addPrime(100001), () -> x.addPrime(100019),
                    () -> x.addPrime(317 * 313), () -> x.addPrime(313 * 313), () -> x.addPrime(Integer.MAX_VALUE),
                    () -> x.addPrime(Integer.MIN_VALUE));
        });
        test("promise 6: the seventh prime", () -> {
            ConvolutionBench x = withPrimes(3, 5, 7, 11, 13, 17);
            refused(x, STATE, () -> x.addPrime(19));
            refused(x, ARGUMENT, () -> x.addPrime(20), () -> x.addPrime(17));
        });
        test("promise 7: removePrime moves the later ones down", () -> {
            ConvolutionBench x = withPrimes(17, 13, 97);
            due(2, () -> x.removePrime(1));
            due(17, () -> x.prime(0, 0));
            due(97, () -> x.prime(1, 0));
            due(5, () -> x.prime(1, 1));
            refused(x, INDEX, () -> x.removePrime(2), () -> x.removePrime(-1), () -> x.removePrime(6));
            due(2, () -> x.addPrime(13));
            due(2, () -> x.removePrime(2));
            due(1, () -> x.removePrime(0));
            due(0, () -> x.removePrime(0));
            refused(x, INDEX, () -> x.removePrime(0));
        });
    }

    private void descriptions() {
        test("promise 8: generators and p - 1", () -> {
            ConvolutionBench x = withPrimes(3, 40961, 97, 65537, 100003, 71761);
            int[][] known = {{3, 2, 2, 1, 2}, {40961, 3, 8192, 2, 11}, {65537, 3, 65536, 1, 7}, {71761, 44, 16, 5, -1}};
            int[] at = {0, 1, 3, 5};
            for (int row = 0; row < known.length; row++) {
                for (int what = 0; what < 5; what++) {
                    int prime = at[row];
                    int asked = what;
                    if (known[row][what] >= 0) {
                        due(known[row][what], () -> x.prime(prime, asked));
                    }
                }
            }
        });
        test("promise 8: every number of a prime by its definition", () -> {
            int[] primes = {3, 5, 7, 41, 97, 109, 191, 271, 2311, 4201, 30011, 55441, 43891, 92821, 99991};
            for (int p : primes) {
                ConvolutionBench x = withPrimes(p);
                int g = generatorByDefinition(p);
                due(p, () -> x.prime(0, 0));
                due(g, () -> x.prime(0, 1));
                int two = 1;
                while ((p - 1) % (2 * two) == 0) {
                    two *= 2;
                }
                int power = two;
                due(power, () -> x.prime(0, 2));
                int factors = 0;
                int divisors = 0;
                for (int d = 1; d < p; d++) {
                    if ((p - 1) % d == 0) {
                        divisors += d <= 64 ? 1 : 0;
                        factors += isPrime(d) ? 1 : 0;
                    }
                }
                int differentFactors = factors;
                int lengths = divisors;
                due(differentFactors, () -> x.prime(0, 3));
                due(lengths, () -> x.prime(0, 4));
            }
        });
        test("promise 8: wrong inputs", () -> {
            ConvolutionBench x = withPrimes(17);
            refused(x, INDEX, () -> x.prime(1, 0), () -> x.prime(-1, 0), () -> x.prime(1, 9));
            refused(x, ARGUMENT, () -> x.prime(0, 5), () -> x.prime(0, -1));
        });
    }

    private void rootsAndPowers() {
        test("promise 9: roots of each order", () -> {
            int p = 421;
            ConvolutionBench x = withPrimes(5, p);
            int g = generatorByDefinition(p);
            for (int n = 1; n < p; n++) {
                int order = n;
                if ((p - 1) % n == 0) {
                    due(powerByDefinition(p, g, (p - 1) / n), () -> x.root(1, order));
                } else {
                    refused(x, ELEMENT, () -> x.root(1, order));
                }
            }
            due(2, () -> x.root(0, 4));
            due(4, () -> x.root(0, 2));
        });
        test("promise 9: wrong inputs", () -> {
            ConvolutionBench x = withPrimes(17);
            refused(x, INDEX, () -> x.root(1, 0), () -> x.root(-1, 4));
            refused(x, ARGUMENT, () -> x.root(0, 0), () -> x.root(0, 17), () -> x.root(0, -1),
                    () -> x.root(0, Integer.MIN_VALUE));
            refused(x, ELEMENT, () -> x.root(0, 3), () -> x.root(0, 15));
        });
        test("promise 10: powers", () -> {
            ConvolutionBench x = withPrimes(97, 100003);
            due(1, () -> x.power(0, 0, 0));
            due(1, () -> x.power(0, 97, 0));
            due(0, () -> x.power(0, 97, 1));
            due(96, () -> x.power(0, -1, Integer.MAX_VALUE));
            for (int e = 0; e < 100; e++) {
                int exponent = e;
                due(powerByDefinition(100003, 100003 - 12345, e), () -> x.power(1, -12345, exponent));
            }
            due(Math.floorMod(Integer.MIN_VALUE, 100003), () -> x.power(1, Integer.MIN_VALUE, 1));
            due(1, () -> x.power(1, 5, 100002));
            due(5, () -> x.power(1, 5, 1000020001));
        });
        test("promise 10: wrong inputs", () -> {
            ConvolutionBench x = withPrimes(97);
            refused(x, INDEX, () -> x.power(1, 2, -1), () -> x.power(-1, 2, 1));
            refused(x, ARGUMENT, () -> x.power(0, 2, -1), () -> x.power(0, 2, Integer.MIN_VALUE));
        });
        test("promise 11: inverses", () -> {
            ConvolutionBench x = withPrimes(97, 3);
            for (int v = -100; v <= 100; v++) {
                int value = v;
                if (v % 97 == 0) {
                    refused(x, ELEMENT, () -> x.inverse(0, value));
                } else {
                    due(1, () -> Math.floorMod(x.inverse(0, value) * value, 97));
                    due(true, () -> x.inverse(0, value) > 0 && x.inverse(0, value) < 97);
                }
            }
            due(2, () -> x.inverse(1, -1));
            refused(x, INDEX, () -> x.inverse(2, 0), () -> x.inverse(-1, 1));
        });
    }

    private void ordersAndLogarithms() {
        test("promise 12: orders", () -> {
            ConvolutionBench x = withPrimes(61, 211);
            for (int prime = 0; prime < 2; prime++) {
                int p = prime == 0 ? 61 : 211;
                for (int v = 1; v < p; v++) {
                    int number = prime;
                    int value = v;
                    due(orderByDefinition(p, v), () -> x.order(number, value));
                    due(orderByDefinition(p, v), () -> x.order(number, value - 2 * p));
                }
            }
            refused(x, ELEMENT, () -> x.order(0, 0), () -> x.order(0, -61), () -> x.order(1, 422));
            refused(x, INDEX, () -> x.order(2, 0), () -> x.order(-1, 1));
        });
        test("promise 13: logarithms of all numbers", () -> {
            for (int p : new int[] {3, 5, 7, 317, 331, 1021, 65537, 99989, 100003}) {
                ConvolutionBench x = withPrimes(p);
                int g = x.prime(0, 1);
                long power = 1;
                int stride = p < 2000 ? 1 : 37;
                for (int e = 0; e < p - 1; e++) {
                    int value = (int) power;
                    if (e % stride == 0 || e > p - 400) {
                        due(e, () -> x.logarithm(0, value));
                    }
                    power = power * g % p;
                }
                due((p - 1) / 2, () -> x.logarithm(0, -1));
            }
        });
        test("promise 13: wrong inputs", () -> {
            ConvolutionBench x = withPrimes(17);
            refused(x, ELEMENT, () -> x.logarithm(0, 0), () -> x.logarithm(0, -17), () -> x.logarithm(0, 34));
            refused(x, INDEX, () -> x.logarithm(1, 0), () -> x.logarithm(-1, 1));
        });
    }

    private void searches() {
        test("promise 14: primeFor", () -> {
            ConvolutionBench x = new ConvolutionBench();
            due(3, () -> x.primeFor(1, 2));
            due(3, () -> x.primeFor(2, 2));
            due(5, () -> x.primeFor(1, 3));
            due(100003, () -> x.primeFor(6, 100001));
            due(100003, () -> x.primeFor(1, 99991));
            for (int n = 1; n <= 128; n++) {
                for (int above = 2; above <= 100002; above += above < 300 ? 7 : 4999) {
                    int order = n;
                    int least = above;
                    int p = leastPrimeByDefinition(n, above);
                    if (p < 0) {
                        refused(x, ELEMENT, () -> x.primeFor(order, least));
                    } else {
                        due(p, () -> x.primeFor(order, least));
                    }
                }
            }
        });
        test("promise 14: wrong inputs", () -> {
            ConvolutionBench x = new ConvolutionBench();
            refused(x, ARGUMENT, () -> x.primeFor(0, 2), () -> x.primeFor(129, 2), () -> x.primeFor(-1, 2),
                    () -> x.primeFor(1, 1), () -> x.primeFor(1, 100003), () -> x.primeFor(1, -5),
                    () -> x.primeFor(Integer.MIN_VALUE, Integer.MAX_VALUE));
            refused(x, ELEMENT, () -> x.primeFor(4, 100002), () -> x.primeFor(128, 100002));
        });
        test("promise 15: usable primes", () -> {
            ConvolutionBench x = withPrimes(17, 13, 97);
            due(7, () -> x.usable(0, 4));
            due(6, () -> x.usable(1, 3));
            due(5, () -> x.usable(2, 8));
            due(4, () -> x.usable(2, 16));
            due(5, () -> x.usable(1, 16));
            due(7, () -> x.usable(2, 1));
            due(0, () -> x.usable(0, 64));
            due(0, () -> new ConvolutionBench().usable(0, 1));
            refused(x, ARGUMENT, () -> x.usable(3, 4), () -> x.usable(-1, 4), () -> x.usable(0, 0),
                    () -> x.usable(0, 65), () -> x.usable(0, -4));
        });
    }

    private static boolean isPrime(int n) {
        for (int d = 2; d < n; d++) {
            if (n % d == 0) {
                return false;
            }
        }
        return n > 1;
    }

    private static int leastPrimeByDefinition(int n, int above) {
        for (int p = above + 1; p <= 100003; p++) {
            if ((p - 1) % n == 0 && java.math.BigInteger.valueOf(p).isProbablePrime(60)) {
                return p;
            }
        }
        return -1;
    }

    private static long powerByDefinition(int p, int base, int exponent) {
        long power = 1;
        for (int i = 0; i < exponent; i++) {
            power = power * base % p;
        }
        return power;
    }

    private static int orderByDefinition(int p, int value) {
        long power = value;
        int order = 1;
        while (power != 1) {
            power = power * value % p;
            order++;
        }
        return order;
    }

    private static int generatorByDefinition(int p) {
        int g = 2;
        while (orderByDefinition(p, g) != p - 1) {
            g++;
        }
        return g;
    }
}
