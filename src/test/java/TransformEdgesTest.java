/** The transforms of section 2 and promises 22 to 26: a test for each sentence that names an edge. */
final class TransformEdgesTest extends Suite {
    @Override
    void run() {
        lengths();
        components();
        costs();
        chirpCosts();
        methods();
        chirps();
        longest();
    }

    private void lengths() {
        test("promise 22: a length from 1 to 64", () -> {
            ConvolutionBench x = withPrimes(257, 131);
            x.setSequence(0, 3, 1, 1);
            due(6, () -> x.transform(0, 0, 1, 0));
            due(6, () -> x.transform(0, 0, 64, 0));
            refused(x, ARGUMENT, () -> x.transform(0, 0, 0, 0), () -> x.transform(1, 0, 65, 0),
                    () -> x.transform(0, 0, -1, 0), () -> x.transform(0, 0, 128, 0), () -> x.transform(0, 0, LEAST, 0));
        });
        test("promise 22: a component from 0 to n - 1", () -> {
            ConvolutionBench x = withPrimes(17);
            x.setSequence(0, 2, 0, 1);
            // The terms 0 and 1: component k is the power k of the root 13.
            due(1, () -> x.transform(0, 0, 4, 0));
            due(4, () -> x.transform(0, 0, 4, 3));
            refused(x, ARGUMENT, () -> x.transform(0, 0, 4, -1), () -> x.transform(0, 0, 4, 4),
                    () -> x.transform(0, 0, 1, 1), () -> x.transform(0, 0, 4, LEAST), () -> x.transform(0, 0, 4, MOST));
        });
        test("section 2: a transform exists if n divides p - 1", () -> {
            ConvolutionBench x = withPrimes(13);
            x.append(0, 20);
            for (int n = 1; n <= 64; n++) {
                int length = n;
                if (n <= 4 || n == 6 || n == 12) {
                    due(7, () -> x.transform(0, 0, length, length - 1));
                } else {
                    refused(x, ELEMENT, () -> x.transform(0, 0, length, length - 1), () -> x.cost(0, length, 0),
                            () -> x.method(0, length), () -> x.chirp(0, length, 0));
                }
            }
        });
    }

    private void components() {
        test("section 2: all terms count, also those behind n", () -> {
            ConvolutionBench x = withPrimes(97);
            set(x, 0, 1, 2, 3, 4, 5);
            due(15, () -> x.transform(0, 0, 1, 0));
            // 1 + 3 + 5 and 2 + 4 fall together.
            due(9 - 6, () -> x.transform(0, 0, 2, 1));
        });
        test("section 2: the transform of an empty sequence is 0", () -> {
            ConvolutionBench x = withPrimes(97, 3);
            due(0, () -> x.transform(0, 0, 32, 0));
            due(0, () -> x.transform(0, 0, 32, 31));
            due(0, () -> x.transform(1, 0, 1, 0));
        });
        test("section 2: components are from 0 to p - 1", () -> {
            ConvolutionBench x = withPrimes(97, 3);
            set(x, 0, -1);
            due(96, () -> x.transform(0, 0, 2, 1));
            due(2, () -> x.transform(1, 0, 2, 1));
            set(x, 0, 96, 1);
            due(0, () -> x.transform(0, 0, 2, 0));
            due(95, () -> x.transform(0, 0, 2, 1));
        });
        test("section 2: 32 of the greatest terms by the greatest prime", () -> {
            ConvolutionBench x = withPrimes(100003);
            x.setSequence(0, 32, 9999, 0);
            due(32 * 9999 % 100003, () -> x.transform(0, 0, 42, 0));
            x.setSequence(0, 32, -9999, 0);
            due(100003 - 32 * 9999 % 100003, () -> x.transform(0, 0, 1, 0));
            due(0, () -> x.transform(0, 0, 2, 1));
        });
    }

    private void costs() {
        test("promise 23: a method from 0 to 2", () -> {
            ConvolutionBench x = withPrimes(257);
            due(64 * 64, () -> x.cost(0, 64, 0));
            due(64 * 6, () -> x.cost(0, 64, 1));
            due(3 * 128 * 7 + 128 + 128, () -> x.cost(0, 64, 2));
            refused(x, ARGUMENT, () -> x.cost(0, 64, -1), () -> x.cost(0, 64, 3), () -> x.cost(0, 64, LEAST));
        });
        test("promise 23: a length from 1 to 64", () -> {
            ConvolutionBench x = withPrimes(257, 131);
            due(1, () -> x.cost(1, 1, 0));
            refused(x, ARGUMENT, () -> x.cost(0, 0, 0), () -> x.cost(1, 65, 0), () -> x.cost(0, 128, 0),
                    () -> x.cost(0, -2, 0), () -> x.cost(0, LEAST, 0));
        });
        test("section 2: the costs of length 1", () -> {
            ConvolutionBench x = withPrimes(3);
            due(1, () -> x.cost(0, 1, 0));
            due(0, () -> x.cost(0, 1, 1));
            due(3, () -> x.cost(0, 1, 2));
        });
        test("section 2: a prime factor counts as often as it divides n", () -> {
            ConvolutionBench x = withPrimes(491, 12289, 1063);
            due(49 * 12, () -> x.cost(0, 49, 1));
            due(14 * 7, () -> x.cost(0, 14, 1));
            due(48 * 6, () -> x.cost(1, 48, 1));
            due(59 * 58, () -> x.cost(2, 59, 1));
        });
    }

    private void chirpCosts() {
        test("section 2: m is the least power of two with m >= 2 * n - 1", () -> {
            ConvolutionBench x = withPrimes(7681, 63361);
            due(3, () -> x.cost(0, 1, 2));
            due(3 * 4 * 2 + 4 + 4, () -> x.cost(0, 2, 2));
            due(3 * 8 * 3 + 8 + 6, () -> x.cost(0, 3, 2));
            due(3 * 8 * 3 + 8 + 8, () -> x.cost(0, 4, 2));
            due(3 * 16 * 4 + 16 + 10, () -> x.cost(0, 5, 2));
            due(3 * 64 * 6 + 64 + 64, () -> x.cost(1, 32, 2));
            due(3 * 128 * 7 + 128 + 66, () -> x.cost(1, 33, 2));
        });
        test("section 2: chirps exist only if m divides p - 1", () -> {
            ConvolutionBench x = withPrimes(17, 3, 97, 193);
            due(3 * 16 * 4 + 16 + 16, () -> x.cost(0, 8, 2));
            due(NONE, () -> x.cost(0, 16, 2));
            due(NONE, () -> x.cost(1, 2, 2));
            due(3 * 32 * 5 + 32 + 32, () -> x.cost(2, 16, 2));
            due(NONE, () -> x.cost(2, 24, 2));
            due(3 * 64 * 6 + 64 + 64, () -> x.cost(3, 32, 2));
            due(NONE, () -> x.cost(3, 64, 2));
        });
    }

    private void methods() {
        test("promise 24: a length from 1 to 64", () -> {
            ConvolutionBench x = withPrimes(257, 131);
            due(1, () -> x.method(0, 1));
            due(1, () -> x.method(0, 64));
            refused(x, ARGUMENT, () -> x.method(0, 0), () -> x.method(1, 65), () -> x.method(0, 128),
                    () -> x.method(0, LEAST), () -> x.method(0, MOST));
        });
        // No length up to 64 has two methods of the same cost, so that the lowest of several cannot be seen.
        test("section 2: the method is the cheapest that exists", () -> {
            ConvolutionBench x = withPrimes(75521, 39041, 1063, 7937);
            due(2, () -> x.method(0, 59));
            due(2, () -> x.method(1, 61));
            due(1, () -> x.method(2, 59));
            due(1, () -> x.method(3, 31));
            due(1, () -> x.method(3, 2));
        });
    }

    private void chirps() {
        test("promise 25: a length from 1 to 64", () -> {
            ConvolutionBench x = withPrimes(257, 131);
            due(1, () -> x.chirp(0, 1, 2));
            due(x.root(0, 64), () -> x.chirp(0, 64, 2));
            refused(x, ARGUMENT, () -> x.chirp(0, 0, 0), () -> x.chirp(1, 65, 0), () -> x.chirp(0, 128, 0),
                    () -> x.chirp(0, -1, -2), () -> x.chirp(0, LEAST, 0));
        });
        test("promise 25: j from 0 to 2 * n", () -> {
            ConvolutionBench x = withPrimes(17, 257);
            // The root of order 4 is 13; the exponents are 0, 0, 1, 3 and at the end 28.
            int[] wanted = {1, 1, 13, 4, 16, 16, 4, 13, 1};
            for (int j = 0; j <= 8; j++) {
                int number = j;
                due(wanted[number], () -> x.chirp(0, 4, number));
            }
            refused(x, ARGUMENT, () -> x.chirp(0, 4, -1), () -> x.chirp(0, 4, 9), () -> x.chirp(0, 1, 3),
                    () -> x.chirp(0, 4, LEAST), () -> x.chirp(0, 4, MOST), () -> x.chirp(1, 64, 129));
        });
        test("promise 25: the greatest j of the greatest length", () -> {
            ConvolutionBench x = withPrimes(257);
            // 128 * 127 / 2 is a multiple of 64, 127 * 126 / 2 is 1 more than one.
            due(1, () -> x.chirp(0, 64, 128));
            due(x.root(0, 64), () -> x.chirp(0, 64, 127));
        });
    }

    private void longest() {
        test("promise 26: 64 for the empty set, with primes and without", () -> {
            due(64, () -> new ConvolutionBench().longest(0));
            due(64, () -> withPrimes(3).longest(0));
        });
        test("promise 26: 64 at most, also if a longer one would divide", () -> {
            ConvolutionBench x = withPrimes(257, 131, 193);
            due(64, () -> x.longest(1));
            due(26, () -> x.longest(2));
            due(64, () -> x.longest(5));
        });
        test("promise 26: each prime of the set has the length", () -> {
            ConvolutionBench x = withPrimes(12097, 127, 757);
            due(64, () -> x.longest(1));
            due(63, () -> x.longest(2));
            due(63, () -> x.longest(3));
            due(63, () -> x.longest(7));
            x.addPrime(5);
            due(2, () -> x.longest(10));
            x.addPrime(3);
            due(2, () -> x.longest(31));
        });
        test("promise 26: a set has no bit behind the last prime", () -> {
            ConvolutionBench x = Benches.sixPrimes();
            due(2, () -> x.longest(63));
            due(16, () -> x.longest(32));
            refused(x, INDEX, () -> x.longest(64), () -> x.longest(65), () -> x.longest(-1), () -> x.longest(LEAST),
                    () -> x.longest(MOST));
            refused(new ConvolutionBench(), INDEX, () -> new ConvolutionBench().longest(1));
        });
    }
}
