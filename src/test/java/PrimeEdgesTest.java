/** Section 1 and promises 5 to 15: a test for each sentence that names a least, a greatest or another edge. */
final class PrimeEdgesTest extends Suite {
    @Override
    void run() {
        counts();
        ranges();
        removing();
        descriptions();
        roots();
        powers();
        inversesAndOrders();
        logarithms();
        searches();
        usablePrimes();
    }

    private void counts() {
        test("section 1: at first there are no primes", () -> {
            ConvolutionBench x = new ConvolutionBench();
            due(0, x::primes);
            refused(x, INDEX, () -> x.prime(0, 0), () -> x.root(0, 1), () -> x.power(0, 1, 1), () -> x.inverse(0, 1),
                    () -> x.order(0, 1), () -> x.logarithm(0, 1), () -> x.longest(1), () -> x.removePrime(0));
        });
        test("section 1: there are at most 6 primes", () -> {
            ConvolutionBench x = Benches.sixPrimes();
            due(6, x::primes);
            refused(x, STATE, () -> x.addPrime(19));
            due(17, () -> x.prime(5, 0));
        });
        test("section 1: a prime that was removed leaves room for a sixth", () -> {
            ConvolutionBench x = Benches.sixPrimes();
            x.removePrime(0);
            due(5, () -> x.addPrime(19));
            refused(x, STATE, () -> x.addPrime(3));
        });
        test("section 1: all primes are different", () -> {
            ConvolutionBench x = withPrimes(17, 13, 97);
            refused(x, ARGUMENT, () -> x.addPrime(17), () -> x.addPrime(13), () -> x.addPrime(97));
        });
        test("section 1: a prime that was removed can be added again", () -> {
            ConvolutionBench x = withPrimes(17, 13);
            x.removePrime(0);
            due(1, () -> x.addPrime(17));
        });
        test("section 1: primes are numbered from 0 in the order in which they are added", () -> {
            ConvolutionBench x = new ConvolutionBench();
            int[] primes = {97, 3, 100003, 13, 5, 11};
            for (int i = 0; i < 6; i++) {
                int number = i;
                due(number, () -> x.addPrime(primes[number]));
            }
            for (int i = 0; i < 6; i++) {
                int number = i;
                due(primes[number], () -> x.prime(number, 0));
            }
            refused(x, INDEX, () -> x.prime(6, 0), () -> x.prime(-1, 0), () -> x.prime(LEAST, 0),
                    () -> x.prime(MOST, 0));
        });
    }

    private void ranges() {
        test("promise 6: a prime is 3 at least", () -> {
            ConvolutionBench x = new ConvolutionBench();
            refused(x, ARGUMENT, () -> x.addPrime(2), () -> x.addPrime(1), () -> x.addPrime(0), () -> x.addPrime(-3),
                    () -> x.addPrime(LEAST));
            due(0, () -> x.addPrime(3));
        });
        test("promise 6: a prime is 100003 at most", () -> {
            ConvolutionBench x = new ConvolutionBench();
            refused(x, ARGUMENT, () -> x.addPrime(100019), () -> x.addPrime(65537 * 3), () -> x.addPrime(MOST));
            due(0, () -> x.addPrime(100003));
        });
        test("promise 6: p must be a prime", () -> {
            ConvolutionBench x = new ConvolutionBench();
            refused(x, ARGUMENT, () -> x.addPrime(4), () -> x.addPrime(9), () -> x.addPrime(313 * 317),
                    () -> x.addPrime(313 * 313), () -> x.addPrime(3 * 33331), () -> x.addPrime(99999),
                    () -> x.addPrime(100002));
        });
    }

    private void removing() {
        test("promise 7: the primes behind a removed one get numbers lower by 1, the others stay", () -> {
            ConvolutionBench x = Benches.sixPrimes();
            due(5, () -> x.removePrime(2));
            int[] left = {3, 5, 11, 13, 17};
            for (int i = 0; i < 5; i++) {
                int number = i;
                due(left[number], () -> x.prime(number, 0));
            }
            refused(x, INDEX, () -> x.prime(5, 0));
        });
        test("promise 7: the first prime can be removed", () -> {
            ConvolutionBench x = Benches.sixPrimes();
            due(5, () -> x.removePrime(0));
            due(5, () -> x.prime(0, 0));
            due(17, () -> x.prime(4, 0));
        });
        test("promise 7: the last of six can be removed", () -> {
            ConvolutionBench x = Benches.sixPrimes();
            due(5, () -> x.removePrime(5));
            due(3, () -> x.prime(0, 0));
            due(13, () -> x.prime(4, 0));
        });
        test("promise 7: the only prime can be removed", () -> {
            ConvolutionBench x = withPrimes(7);
            due(0, () -> x.removePrime(0));
            due(0, x::primes);
            refused(x, INDEX, () -> x.removePrime(0));
        });
    }

    private void described(int p, int... wanted) {
        ConvolutionBench x = withPrimes(p);
        for (int what = 0; what < wanted.length; what++) {
            int asked = what;
            due(wanted[asked], () -> x.prime(0, asked));
        }
    }

    private void descriptions() {
        test("promise 8: what is from 0 to 4", () -> {
            ConvolutionBench x = withPrimes(17);
            due(17, () -> x.prime(0, 0));
            due(5, () -> x.prime(0, 4));
            refused(x, ARGUMENT, () -> x.prime(0, -1), () -> x.prime(0, 5), () -> x.prime(0, LEAST),
                    () -> x.prime(0, MOST));
        });
        test("promise 8: the least prime", () -> described(3, 3, 2, 2, 1, 2));
        test("promise 8: the greatest prime", () -> described(100003, 100003, 2, 2, 4, 8));
        test("promise 8: a prime behind a power of two", () -> described(65537, 65537, 3, 65536, 1, 7));
        test("promise 8: the most prime factors that there can be", () -> described(43891, 43891, 3, 2, 6, 20));
        test("promise 8: a prime factor that divides often counts once", () -> described(101, 101, 2, 4, 2, 8));
        test("promise 8: the divisor 64 counts", () -> described(193, 193, 5, 64, 2, 12));
        test("promise 8: the divisor 65 does not count", () -> described(131, 131, 2, 2, 3, 6));
        test("section 1: the least generator is not always 2", () -> described(7, 7, 3));
        test("section 1: the least generator, far behind 2", () -> described(71761, 71761, 44));
    }

    private void roots() {
        test("promise 9: the root of order 1", () -> {
            ConvolutionBench x = withPrimes(3, 97, 100003);
            due(1, () -> x.root(0, 1));
            due(1, () -> x.root(1, 1));
            due(1, () -> x.root(2, 1));
        });
        test("promise 9: the root of order p - 1 is the generator", () -> {
            ConvolutionBench x = withPrimes(3, 97, 100003, 71761);
            due(2, () -> x.root(0, 2));
            due(5, () -> x.root(1, 96));
            due(2, () -> x.root(2, 100002));
            due(44, () -> x.root(3, 71760));
        });
        test("promise 9: the root of order 2 is p - 1", () -> {
            ConvolutionBench x = withPrimes(3, 97, 100003);
            due(2, () -> x.root(0, 2));
            due(96, () -> x.root(1, 2));
            due(100002, () -> x.root(2, 2));
        });
        test("promise 9: an order is 1 at least", () -> {
            ConvolutionBench x = withPrimes(97);
            refused(x, ARGUMENT, () -> x.root(0, 0), () -> x.root(0, -1), () -> x.root(0, LEAST));
        });
        test("promise 9: an order is p - 1 at most", () -> {
            ConvolutionBench x = withPrimes(97, 3);
            refused(x, ARGUMENT, () -> x.root(0, 97), () -> x.root(0, 2 * 96), () -> x.root(1, 3),
                    () -> x.root(0, MOST));
        });
        test("promise 9: an order in its range that does not divide p - 1", () -> {
            ConvolutionBench x = withPrimes(97);
            refused(x, ELEMENT, () -> x.root(0, 5), () -> x.root(0, 64), () -> x.root(0, 95), () -> x.root(0, 49));
        });
    }

    private void powers() {
        test("promise 10: the power with the exponent 0 is 1, for 0 as well", () -> {
            ConvolutionBench x = withPrimes(97, 3);
            for (int base : new int[] {0, 1, -1, 97, -97, 5, LEAST, MOST}) {
                due(1, () -> x.power(0, base, 0));
                due(1, () -> x.power(1, base, 0));
            }
        });
        test("promise 10: an exponent is 0 at least", () -> {
            ConvolutionBench x = withPrimes(97);
            refused(x, ARGUMENT, () -> x.power(0, 5, -1), () -> x.power(0, 0, -1), () -> x.power(0, 5, LEAST));
        });
        test("promise 10: the greatest exponent", () -> {
            ConvolutionBench x = withPrimes(97, 3, 100003);
            due(7, () -> x.power(0, 5, MOST));
            due(2, () -> x.power(1, 2, MOST));
            due(83092, () -> x.power(2, 2, MOST));
            due(100002, () -> x.power(2, -1, MOST));
        });
        test("promise 10: a base is any number", () -> {
            ConvolutionBench x = withPrimes(97, 100003);
            due(0, () -> x.power(0, 97 * 5, 1));
            due(0, () -> x.power(0, -97, 2));
            due(31, () -> x.power(0, LEAST, 1));
            due(65, () -> x.power(0, MOST, 1));
            due(27988, () -> x.power(1, LEAST, 2));
        });
        test("section 1: residues are from 0 to p - 1", () -> {
            ConvolutionBench x = withPrimes(97);
            due(96, () -> x.power(0, -1, 1));
            due(96, () -> x.power(0, 96, 1));
            due(0, () -> x.power(0, 97, 1));
            due(0, () -> x.power(0, 0, 1));
            due(1, () -> x.power(0, 98, 1));
        });
    }

    private void inversesAndOrders() {
        test("promise 11: inverses of 1 and of p - 1", () -> {
            ConvolutionBench x = withPrimes(97, 3, 100003);
            due(1, () -> x.inverse(0, 1));
            due(96, () -> x.inverse(0, 96));
            due(2, () -> x.inverse(1, 2));
            due(100002, () -> x.inverse(2, -1));
            due(50002, () -> x.inverse(2, 2));
        });
        test("promise 11: any number that is no multiple has an inverse", () -> {
            ConvolutionBench x = withPrimes(97);
            due(72, () -> x.inverse(0, LEAST));
            due(3, () -> x.inverse(0, MOST));
            due(1, () -> x.inverse(0, 98));
            due(1, () -> x.inverse(0, -96));
        });
        test("promise 11: multiples have no inverse", () -> {
            ConvolutionBench x = withPrimes(97);
            refused(x, ELEMENT, () -> x.inverse(0, 0), () -> x.inverse(0, 97), () -> x.inverse(0, -97),
                    () -> x.inverse(0, 97 * 22000000));
        });
        test("promise 12: orders of 1, p - 1 and the generator", () -> {
            ConvolutionBench x = withPrimes(97, 3, 100003);
            due(1, () -> x.order(0, 1));
            due(2, () -> x.order(0, 96));
            due(96, () -> x.order(0, 5));
            due(1, () -> x.order(1, 4));
            due(2, () -> x.order(1, -1));
            due(100002, () -> x.order(2, 2));
        });
        test("promise 12: every order by a prime factor that divides often", () -> {
            // 2 is the generator of 101; the order of its power e is 100 divided by their common divisor.
            ConvolutionBench x = withPrimes(101);
            int power = 1;
            for (int e = 0; e < 100; e++) {
                int value = power;
                int order = 100 / java.math.BigInteger.valueOf(e).gcd(java.math.BigInteger.valueOf(100)).intValue();
                due(order, () -> x.order(0, value));
                power = power * 2 % 101;
            }
        });
        test("promise 12: orders by a p - 1 with the most prime factors", () -> {
            ConvolutionBench x = withPrimes(43891);
            due(1, () -> x.order(0, 1));
            due(2926, () -> x.order(0, 2));
            due(43890, () -> x.order(0, 3));
            due(7315, () -> x.order(0, 5));
            due(14630, () -> x.order(0, 7));
            due(2, () -> x.order(0, -1));
            due(43889, () -> x.logarithm(0, 29261));
        });
        test("promise 12: multiples have no order", () -> {
            ConvolutionBench x = withPrimes(97);
            refused(x, ELEMENT, () -> x.order(0, 0), () -> x.order(0, 97), () -> x.order(0, -97));
        });
    }

    private void logarithms() {
        test("promise 13: logarithms go from 0 to p - 2", () -> {
            ConvolutionBench x = withPrimes(97, 3, 100003, 71761);
            due(0, () -> x.logarithm(0, 1));
            due(1, () -> x.logarithm(0, 5));
            due(95, () -> x.logarithm(0, 39));
            due(0, () -> x.logarithm(1, 1));
            due(1, () -> x.logarithm(1, 2));
            due(0, () -> x.logarithm(2, 100004));
            due(100001, () -> x.logarithm(2, 50002));
            due(1, () -> x.logarithm(3, 44));
        });
        test("promise 13: the logarithm of any number", () -> {
            ConvolutionBench x = withPrimes(97);
            due(48, () -> x.logarithm(0, -1));
            // Their residues are 31 and 65 modulo 97.
            due(31, () -> x.power(0, 5, x.logarithm(0, LEAST)));
            due(65, () -> x.power(0, 5, x.logarithm(0, MOST)));
        });
        test("promise 13: logarithms by one prime behind those by another", () -> {
            ConvolutionBench x = withPrimes(331, 7, 100003, 5, 65537);
            due(329, () -> x.logarithm(0, 221));
            due(10, () -> x.logarithm(2, 1024));
            due(28672, () -> x.logarithm(4, 1024));
            for (int value = 1; value < 7; value++) {
                int asked = value;
                due(value, () -> x.power(1, 3, x.logarithm(1, asked)));
                due(value, () -> x.power(2, 2, x.logarithm(2, asked)));
                due(true, () -> x.logarithm(1, asked) >= 0 && x.logarithm(1, asked) <= 5);
            }
            for (int value = 1; value < 5; value++) {
                int asked = value;
                due(value, () -> x.power(3, 2, x.logarithm(3, asked)));
                due(true, () -> x.logarithm(3, asked) >= 0 && x.logarithm(3, asked) <= 3);
            }
        });
        test("promise 13: multiples have no logarithm", () -> {
            ConvolutionBench x = withPrimes(97);
            refused(x, ELEMENT, () -> x.logarithm(0, 0), () -> x.logarithm(0, 97), () -> x.logarithm(0, -194));
        });
    }

    private void searches() {
        ConvolutionBench x = withPrimes(3, 5);
        test("promise 14: n is from 1 to 128", () -> {
            due(3, () -> x.primeFor(1, 2));
            due(257, () -> x.primeFor(128, 2));
            refused(x, ARGUMENT, () -> x.primeFor(0, 2), () -> x.primeFor(129, 2), () -> x.primeFor(LEAST, 2),
                    () -> x.primeFor(MOST, 2));
        });
        test("promise 14: above is from 2 to 100002", () -> {
            due(3, () -> x.primeFor(2, 2));
            due(100003, () -> x.primeFor(1, 100002));
            due(100003, () -> x.primeFor(42, 100002));
            refused(x, ARGUMENT, () -> x.primeFor(1, 1), () -> x.primeFor(1, 100003), () -> x.primeFor(1, LEAST),
                    () -> x.primeFor(1, MOST));
        });
        test("promise 14: the prime is greater than the number, which may be a prime itself", () -> {
            due(257, () -> x.primeFor(128, 256));
            due(641, () -> x.primeFor(128, 257));
            due(5, () -> x.primeFor(1, 3));
            due(7, () -> x.primeFor(1, 5));
            due(7, () -> x.primeFor(1, 6));
        });
        test("promise 14: the prime need not have been added, and may have been", () -> {
            due(7, () -> x.primeFor(3, 2));
            due(3, () -> x.primeFor(1, 2));
            due(2, x::primes);
        });
        test("promise 14: there may be no such prime up to 100003", () -> {
            due(99989, () -> x.primeFor(4, 99988));
            due(99713, () -> x.primeFor(128, 99712));
            refused(x, ELEMENT, () -> x.primeFor(4, 99989), () -> x.primeFor(128, 99713), () -> x.primeFor(5, 100002));
        });
    }

    private void usablePrimes() {
        test("promise 15: kind is from 0 to 2", () -> {
            ConvolutionBench x = withPrimes(97);
            due(1, () -> x.usable(0, 32));
            due(1, () -> x.usable(1, 32));
            due(0, () -> x.usable(2, 32));
            refused(x, ARGUMENT, () -> x.usable(-1, 1), () -> x.usable(3, 1), () -> x.usable(LEAST, 1));
        });
        test("promise 15: length is from 1 to 64", () -> {
            ConvolutionBench x = withPrimes(193, 257, 131);
            due(7, () -> x.usable(0, 1));
            due(3, () -> x.usable(1, 64));
            refused(x, ARGUMENT, () -> x.usable(0, 0), () -> x.usable(1, 65), () -> x.usable(2, 65),
                    () -> x.usable(0, MOST));
        });
        test("promise 15: for kind 2 the double of the length counts", () -> {
            ConvolutionBench x = withPrimes(193, 257, 131);
            due(2, () -> x.usable(2, 64));
            due(3, () -> x.usable(2, 32));
            due(4, () -> x.usable(2, 5));
            due(7, () -> x.usable(2, 1));
        });
        test("promise 15: without primes none is usable, of six all can be", () -> {
            due(0, () -> new ConvolutionBench().usable(0, 1));
            due(63, () -> Benches.sixPrimes().usable(2, 1));
            due(32, () -> Benches.sixPrimes().usable(0, 8));
        });
    }
}
