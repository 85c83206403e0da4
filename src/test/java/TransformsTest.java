/** Promises 22 to 26: transforms, their costs and methods, chirps. */
final class TransformsTest extends Suite {
    @Override
    void run() {
        components();
        costs();
        chirps();
        test("promise 26: longest", () -> {
            ConvolutionBench x = withPrimes(17, 13, 97, 107, 257, 3);
            due(64, () -> x.longest(0));
            due(16, () -> x.longest(1));
            due(12, () -> x.longest(2));
            due(4, () -> x.longest(3));
            due(48, () -> x.longest(4));
            due(53, () -> x.longest(8));
            due(64, () -> x.longest(16));
            due(2, () -> x.longest(63));
            due(2, () -> x.longest(32));
            refused(x, INDEX, () -> x.longest(64), () -> x.longest(-1), () -> x.longest(Integer.MIN_VALUE));
            x.removePrime(5);
            refused(x, INDEX, () -> x.longest(32), () -> x.longest(1 << 30));
            refused(new ConvolutionBench(), INDEX, () -> new ConvolutionBench().longest(1));
        });
    }

    private void components() {
        test("promise 22: components by definition, of sequences shorter and longer than n", () -> {
            ConvolutionBench x = withPrimes(17, 61, 100003, 12289, 39041);
            x.setSequence(0, 32, -9999, 641);
            set(x, 1, 5, -6, 7);
            set(x, 2, 9999);
            for (int prime = 0; prime < 5; prime++) {
                for (int n = 1; n <= 64; n++) {
                    if ((x.prime(prime, 0) - 1) % n == 0) {
                        componentsBy(x, prime, n);
                    } else {
                        int number = prime;
                        int length = n;
                        refused(x, ELEMENT, () -> x.transform(number, 0, length, 0));
                    }
                }
            }
        });
        test("promise 22: wrong inputs", () -> {
            ConvolutionBench x = withPrimes(17);
            refused(x, INDEX, () -> x.transform(1, 0, 4, 0), () -> x.transform(0, 4, 4, 0),
                    () -> x.transform(-1, 0, 99, 0), () -> x.transform(0, -1, 3, 99));
            refused(x, ARGUMENT, () -> x.transform(0, 0, 0, 0), () -> x.transform(0, 0, 65, 0),
                    () -> x.transform(0, 0, 4, 4), () -> x.transform(0, 0, 4, -1), () -> x.transform(0, 0, 3, 3),
                    () -> x.transform(0, 0, -4, 0));
            refused(x, ELEMENT, () -> x.transform(0, 0, 3, 2), () -> x.transform(0, 0, 32, 31));
            due(0, () -> x.transform(0, 0, 16, 15));
        });
    }

    private void componentsBy(ConvolutionBench x, int prime, int n) {
        int p = x.prime(prime, 0);
        int w = x.root(prime, n);
        for (int slot = 0; slot < 4; slot++) {
            for (int k = 0; k < n; k++) {
                long sum = 0;
                for (int j = 0; j < x.length(slot); j++) {
                    sum += (long) x.term(slot, j) * x.power(prime, w, j * k);
                }
                long want = Math.floorMod(sum, (long) p);
                int at = slot;
                int component = k;
                due(want, () -> x.transform(prime, at, n, component));
            }
        }
    }

    private void costs() {
        test("promise 23: costs", () -> {
            ConvolutionBench x = withPrimes(17, 39041, 55441, 257);
            due(1, () -> x.cost(0, 1, 0));
            due(0, () -> x.cost(0, 1, 1));
            due(3, () -> x.cost(0, 1, 2));
            due(256, () -> x.cost(0, 16, 0));
            due(64, () -> x.cost(0, 16, 1));
            due(NONE, () -> x.cost(0, 16, 2));
            due(3 * 16 * 4 + 16 + 16, () -> x.cost(0, 8, 2));
            due(61 * 61, () -> x.cost(1, 61, 0));
            due(61 * 60, () -> x.cost(1, 61, 1));
            due(3 * 128 * 7 + 128 + 122, () -> x.cost(1, 61, 2));
            due(60 * (1 + 1 + 2 + 4), () -> x.cost(2, 60, 1));
            due(63 * (2 + 2 + 6), () -> x.cost(2, 63, 1));
            due(3600, () -> x.cost(2, 60, 0));
            due(3 * 128 * 7 + 128 + 128, () -> x.cost(3, 64, 2));
            due(64 * 6, () -> x.cost(3, 64, 1));
        });
        test("promise 23: wrong inputs", () -> {
            ConvolutionBench x = withPrimes(17);
            refused(x, INDEX, () -> x.cost(1, 0, 3), () -> x.cost(-1, 4, 0));
            refused(x, ARGUMENT, () -> x.cost(0, 0, 0), () -> x.cost(0, 65, 0), () -> x.cost(0, 3, 3),
                    () -> x.cost(0, 4, -1), () -> x.cost(0, -4, 0));
            refused(x, ELEMENT, () -> x.cost(0, 3, 0), () -> x.cost(0, 64, 2));
        });
        test("promise 24: the method is the cheapest, of several the lowest", () -> {
            ConvolutionBench x = withPrimes(17, 39041, 107, 257);
            due(1, () -> x.method(0, 1));
            due(1, () -> x.method(0, 2));
            due(2, () -> x.method(1, 61));
            due(1, () -> x.method(2, 53));
            for (int prime = 0; prime < 4; prime++) {
                for (int n = 1; n <= 64; n++) {
                    if ((x.prime(prime, 0) - 1) % n == 0) {
                        int best = 0;
                        for (int method = 1; method <= 2; method++) {
                            int cost = x.cost(prime, n, method);
                            best = cost != NONE && cost < x.cost(prime, n, best) ? method : best;
                        }
                        int number = prime;
                        int length = n;
                        int want = best;
                        due(want, () -> x.method(number, length));
                    }
                }
            }
        });
        test("promise 24: wrong inputs", () -> {
            ConvolutionBench x = withPrimes(17);
            refused(x, INDEX, () -> x.method(1, 0), () -> x.method(-1, 4));
            refused(x, ARGUMENT, () -> x.method(0, 0), () -> x.method(0, 65), () -> x.method(0, -1));
            refused(x, ELEMENT, () -> x.method(0, 3), () -> x.method(0, 64));
        });
    }

    private void chirps() {
        test("promise 25: chirps", () -> {
            ConvolutionBench x = withPrimes(17, 193);
            for (int n = 1; n <= 64; n++) {
                for (int j = 0; j <= 2 * n && 192 % n == 0; j++) {
                    int length = n;
                    int number = j;
                    long power = 1;
                    for (int i = 0; i < j * (j - 1) / 2; i++) {
                        power = power * x.root(1, n) % 193;
                    }
                    long want = power;
                    due(want, () -> x.chirp(1, length, number));
                }
            }
        });
        test("promise 25: wrong inputs", () -> {
            ConvolutionBench x = withPrimes(17);
            refused(x, INDEX, () -> x.chirp(1, 0, 0), () -> x.chirp(-1, 4, 0));
            refused(x, ARGUMENT, () -> x.chirp(0, 0, 0), () -> x.chirp(0, 65, 0), () -> x.chirp(0, 4, 9),
                    () -> x.chirp(0, 4, -1), () -> x.chirp(0, 3, 7), () -> x.chirp(0, -1, -2));
            refused(x, ELEMENT, () -> x.chirp(0, 3, 6), () -> x.chirp(0, 64, 128));
            due(1, () -> x.chirp(0, 1, 2));
        });
    }
}
