/** Promises 27 to 32: sizes, bounds, coefficients, sets that are enough, plans. */
final class ConvolutionsTest extends Suite {
    @Override
    void run() {
        sizes();
        bounds();
        coefficients();
        enough();
        plans();
        planEdges();
    }

    private static ConvolutionBench small() {
        ConvolutionBench x = withPrimes(17, 13, 97);
        set(x, 0, 1, 2, 3, 4);
        set(x, 1, 5, 6);
        return x;
    }

    private void sizes() {
        test("promise 27: size", () -> {
            ConvolutionBench x = small();
            due(5, () -> x.size(0, 0, 1, -77));
            due(3, () -> x.size(0, 1, 1, 0));
            due(4, () -> x.size(1, 0, 1, 4));
            due(64, () -> x.size(2, 1, 0, 64));
            x.setSequence(2, 32, 0, 0);
            due(63, () -> x.size(0, 2, 2, 0));
            due(32, () -> x.size(2, 2, 0, 32));
            refused(x, INDEX, () -> x.size(0, 4, 3, 0), () -> x.size(9, 3, -1, 0), () -> x.size(0, 0, 4, 0));
            refused(x, STATE, () -> x.size(9, 3, 0, 0), () -> x.size(0, 0, 3, 0), () -> x.size(1, 3, 3, 99));
            refused(x, ARGUMENT, () -> x.size(3, 0, 1, 4), () -> x.size(-1, 0, 1, 4), () -> x.size(1, 0, 1, 3),
                    () -> x.size(2, 1, 0, 3), () -> x.size(1, 0, 1, 65), () -> x.size(2, 2, 2, 31),
                    () -> x.size(1, 1, 1, 0), () -> x.size(2, 1, 1, -1));
        });
    }

    private void bounds() {
        test("promise 28: bound", () -> {
            ConvolutionBench x = small();
            due(48, () -> x.bound(0, 1));
            due(48, () -> x.bound(1, 0));
            due(64, () -> x.bound(0, 0));
            set(x, 2, 3, -8, 1);
            due(96, () -> x.bound(0, 2));
            set(x, 3, 0, 0);
            due(0, () -> x.bound(0, 3));
            x.setSequence(0, 32, -9999, 0);
            due(32L * 9999 * 9999, () -> x.bound(0, 0));
            x.cut(1, 0);
            refused(x, STATE, () -> x.bound(0, 1), () -> x.bound(1, 0));
            refused(x, INDEX, () -> x.bound(1, 4), () -> x.bound(-1, 1));
        });
    }

    private void coefficients() {
        test("promise 29: coefficients by definition", () -> {
            ConvolutionBench x = small();
            set(x, 2, -9999, 31, 0, 17, 9999, -5);
            for (int kind = 0; kind <= 2; kind++) {
                for (int one = 0; one < 3; one++) {
                    for (int other = 0; other < 3; other++) {
                        coefficientsOf(x, kind, one, other);
                    }
                }
            }
        });
        test("promise 29: the greatest coefficients", () -> {
            ConvolutionBench x = new ConvolutionBench();
            x.setSequence(0, 32, 9999, 0);
            due(32L * 9999 * 9999, () -> x.coefficient(0, 0, 0, 0, 31));
            due(32L * 9999 * 9999, () -> x.coefficient(1, 0, 0, 32, 7));
            due(-30L * 9999 * 9999, () -> x.coefficient(2, 0, 0, 32, 0));
            due(9999L * 9999, () -> x.coefficient(0, 0, 0, 0, 62));
        });
        test("promise 29: wrong inputs", () -> {
            ConvolutionBench x = small();
            refused(x, INDEX, () -> x.coefficient(5, 4, 3, 0, 0), () -> x.coefficient(0, 0, -1, 0, 0));
            refused(x, STATE, () -> x.coefficient(5, 0, 3, 0, 0), () -> x.coefficient(0, 3, 0, 0, -1));
            refused(x, ARGUMENT, () -> x.coefficient(0, 0, 1, 0, 5), () -> x.coefficient(0, 0, 1, 0, -1),
                    () -> x.coefficient(1, 0, 1, 4, 4), () -> x.coefficient(2, 0, 1, 3, 0),
                    () -> x.coefficient(3, 0, 1, 4, 0), () -> x.coefficient(1, 0, 1, 65, 0));
        });
    }

    private void coefficientsOf(ConvolutionBench x, int kind, int one, int other) {
        int longer = Math.max(x.length(one), x.length(other));
        for (int n = longer; n <= 12; n++) {
            int size = x.size(kind, one, other, n);
            for (int k = 0; k < size; k++) {
                long sum = 0;
                for (int i = 0; i < x.length(one); i++) {
                    for (int j = 0; j < x.length(other); j++) {
                        long product = (long) x.term(one, i) * x.term(other, j);
                        int over = i + j - k;
                        if (kind == 0 ? over == 0 : over % n == 0) {
                            sum += kind == 2 && over / n % 2 != 0 ? -product : product;
                        }
                    }
                }
                long want = sum;
                int length = n;
                int at = k;
                due(want, () -> x.coefficient(kind, one, other, length, at));
            }
        }
    }

    private void enough() {
        test("promise 30: isEnough", () -> {
            ConvolutionBench x = small();
            due(false, () -> x.isEnough(0, 0, 1));
            due(false, () -> x.isEnough(1, 0, 1));
            due(true, () -> x.isEnough(4, 0, 1));
            due(true, () -> x.isEnough(3, 0, 1));
            set(x, 2, 0);
            due(false, () -> x.isEnough(0, 2, 2));
            due(true, () -> x.isEnough(2, 2, 2));
            set(x, 1, 7);
            set(x, 3, 1);
            due(false, () -> x.isEnough(2, 1, 1));
            due(true, () -> x.isEnough(1, 1, 3));
            set(x, 1, 8);
            due(true, () -> x.isEnough(1, 1, 3));
            set(x, 1, 9);
            due(false, () -> x.isEnough(1, 1, 3));
            x.cut(2, 0);
            refused(x, INDEX, () -> x.isEnough(8, 0, 2), () -> x.isEnough(-1, 0, 1), () -> x.isEnough(1, 4, 0),
                    () -> x.isEnough(1, 0, -1));
            refused(x, STATE, () -> x.isEnough(1, 0, 2), () -> x.isEnough(0, 2, 0));
        });
        test("promise 30: six great primes do not run over", () -> {
            ConvolutionBench x = withPrimes(100003, 99991, 99989, 99971, 99961, 99929);
            x.setSequence(0, 32, 9999, 0);
            due(true, () -> x.isEnough(63, 0, 0));
            due(true, () -> x.isEnough(3, 0, 0));
            due(false, () -> x.isEnough(32, 0, 0));
        });
    }

    private void plans() {
        test("promises 31 and 32: plans of a small convolution", () -> {
            ConvolutionBench x = small();
            due(8, () -> x.plan(0, 0, 1, 0, 0));
            due(0, () -> x.plan(0, 0, 1, 0, 1));
            due(0, () -> x.plan(0, 0, 1, 0, 2));
            due(60, () -> x.transformSteps(0, 0, 1, 0));
            due(28, () -> x.transformSteps(1, 0, 1, 4));
            due(40, () -> x.transformSteps(2, 0, 1, 4));
            refused(x, ELEMENT, () -> x.transformSteps(1, 0, 1, 5));
        });
        test("promises 31 and 32: a plan with transforms", () -> {
            ConvolutionBench x = withPrimes(97, 193, 39041);
            x.setSequence(0, 32, -20, 1);
            due(3 * 160 + 32, () -> x.plan(1, 0, 0, 32, 0));
            due(32, () -> x.plan(1, 0, 0, 32, 1));
            due(4, () -> x.plan(1, 0, 0, 32, 2));
            due(3 * 160 + 4 * 32, () -> x.plan(2, 0, 0, 32, 0));
            x.setSequence(0, 32, 100, 7);
            due(1024, () -> x.plan(1, 0, 0, 32, 0));
            due(0, () -> x.plan(1, 0, 0, 32, 1));
            due(2 * (3 * 160 + 32) + 32, () -> x.transformSteps(1, 0, 0, 32));
        });
        test("promise 31: the lowest set wins a tie", () -> {
            ConvolutionBench x = withPrimes(12289, 40961, 65537);
            x.setSequence(0, 32, 1, 0);
            due(1, () -> x.plan(1, 0, 0, 32, 2));
            x.removePrime(0);
            x.addPrime(12289);
            due(1, () -> x.plan(1, 0, 0, 32, 2));
            due(512, () -> x.plan(1, 0, 0, 32, 0));
        });
        test("promise 31: schoolbook wins a tie", () -> {
            // One prime, M = 1: 3 * 0 + 1 steps, as many as one product of two terms.
            ConvolutionBench x = withPrimes(17);
            set(x, 0, 2);
            due(1, () -> x.plan(0, 0, 0, 0, 0));
            due(0, () -> x.plan(0, 0, 0, 0, 1));
            due(0, () -> x.plan(0, 0, 0, 0, 2));
            due(1, () -> x.transformSteps(0, 0, 0, 0));
            due(4, () -> x.transformSteps(2, 0, 0, 1));
        });
        test("promise 31: a longer transform can be cheaper, a prime needs not have every length", () -> {
            ConvolutionBench x = withPrimes(12289);
            x.setSequence(0, 32, 1, 0);
            // N is 63, which does not divide 12288: only 64 is left.
            due(3 * 384 + 64, () -> x.transformSteps(0, 0, 0, 0));
            due(1024, () -> x.plan(0, 0, 0, 0, 0));
            refused(x, ELEMENT, () -> x.transformSteps(1, 0, 0, 63));
        });
    }

    private void planEdges() {
        test("promise 31 and 32: no primes", () -> {
            ConvolutionBench x = new ConvolutionBench();
            set(x, 0, 1, 2, 3);
            due(9, () -> x.plan(0, 0, 0, 0, 0));
            due(0, () -> x.plan(0, 0, 0, 0, 1));
            refused(x, ELEMENT, () -> x.transformSteps(0, 0, 0, 0));
        });
        test("promise 32: the primes must be enough", () -> {
            ConvolutionBench x = withPrimes(3);
            set(x, 0, 1);
            due(1, () -> x.transformSteps(0, 0, 0, 0));
            set(x, 0, 2);
            refused(x, ELEMENT, () -> x.transformSteps(0, 0, 0, 0));
            set(x, 0, 0);
            due(1, () -> x.transformSteps(0, 0, 0, 0));
            x.addPrime(17);
            x.removePrime(0);
            set(x, 0, 8, 0);
            set(x, 1, 1);
            due(2 * 3 + 2, () -> x.transformSteps(1, 0, 1, 2));
            set(x, 0, 9, 0);
            refused(x, ELEMENT, () -> x.transformSteps(1, 0, 1, 2));
        });
        test("promises 31 and 32: wrong inputs", () -> {
            ConvolutionBench x = small();
            refused(x, INDEX, () -> x.plan(9, 4, 3, 0, 9), () -> x.plan(0, 0, -1, 0, 0),
                    () -> x.transformSteps(9, 4, 3, 0));
            refused(x, STATE, () -> x.plan(9, 0, 3, 0, 9), () -> x.transformSteps(9, 3, 0, 0));
            refused(x, ARGUMENT, () -> x.plan(0, 0, 1, 0, 3), () -> x.plan(0, 0, 1, 0, -1),
                    () -> x.plan(3, 0, 1, 4, 0), () -> x.plan(1, 0, 1, 3, 0), () -> x.plan(2, 0, 1, 65, 0),
                    () -> x.transformSteps(3, 0, 1, 4), () -> x.transformSteps(-1, 0, 1, 4),
                    () -> x.transformSteps(1, 0, 1, 3), () -> x.transformSteps(2, 0, 1, 65));
        });
    }
}
