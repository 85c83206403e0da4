/** Section 3 and promises 27 to 30: a test for each sentence that names an edge. */
final class ConvolutionEdgesTest extends Suite {
    @Override
    void run() {
        sizes();
        refusedSizes();
        bounds();
        coefficients();
        wraps();
        enough();
    }

    /** Slot 0: 1 2 3 4, slot 1: 5 6, slot 2: empty, slot 3: 32 ones. */
    private static ConvolutionBench filled() {
        ConvolutionBench x = new ConvolutionBench();
        x.setSequence(0, 4, 1, 1);
        x.setSequence(1, 2, 5, 1);
        x.setSequence(3, 32, 1, 0);
        return x;
    }

    private void sizes() {
        test("section 3: a linear N is the sum of both lengths minus 1, from 1 to 63", () -> {
            ConvolutionBench x = filled();
            x.setSequence(2, 1, 7, 0);
            due(1, () -> x.size(0, 2, 2, 0));
            due(32, () -> x.size(0, 2, 3, 0));
            due(5, () -> x.size(0, 0, 1, 0));
            due(63, () -> x.size(0, 3, 3, 0));
        });
        test("promises 27 to 32: for kind 0 the parameter n is ignored", () -> {
            ConvolutionBench x = filled();
            x.addPrime(97);
            for (int n : new int[] {LEAST, -1, 0, 1, 64, 65, MOST}) {
                due(5, () -> x.size(0, 0, 1, n));
                due(24, () -> x.coefficient(0, 0, 1, n, 4));
                due(8, () -> x.plan(0, 0, 1, n, 0));
                due(60, () -> x.transformSteps(0, 0, 1, n));
            }
        });
        test("promise 27: N from 1 to 64 for the kinds 1 and 2", () -> {
            ConvolutionBench x = new ConvolutionBench();
            x.append(0, 3);
            for (int kind = 1; kind <= 2; kind++) {
                int asked = kind;
                due(1, () -> x.size(asked, 0, 0, 1));
                due(64, () -> x.size(asked, 0, 0, 64));
                refused(x, ARGUMENT, () -> x.size(asked, 0, 0, 0), () -> x.size(asked, 0, 0, 65),
                        () -> x.size(asked, 0, 0, -1), () -> x.size(asked, 0, 0, LEAST),
                        () -> x.size(asked, 0, 0, MOST));
            }
        });
        test("promise 27: N is at least the lengths of both", () -> {
            ConvolutionBench x = filled();
            for (int kind = 1; kind <= 2; kind++) {
                int asked = kind;
                due(4, () -> x.size(asked, 0, 1, 4));
                due(4, () -> x.size(asked, 1, 0, 4));
                due(32, () -> x.size(asked, 3, 3, 32));
                refused(x, ARGUMENT, () -> x.size(asked, 0, 1, 3), () -> x.size(asked, 1, 0, 3),
                        () -> x.size(asked, 3, 0, 31), () -> x.size(asked, 0, 3, 31));
            }
        });
    }

    private void refusedSizes() {
        test("promise 27: kind is from 0 to 2", () -> {
            ConvolutionBench x = filled();
            due(5, () -> x.size(0, 0, 1, 4));
            due(4, () -> x.size(2, 0, 1, 4));
            refused(x, ARGUMENT, () -> x.size(-1, 0, 1, 4), () -> x.size(3, 0, 1, 4), () -> x.size(LEAST, 0, 1, 4));
        });
        test("promise 27: both slots may be the same", () -> {
            ConvolutionBench x = filled();
            due(7, () -> x.size(0, 0, 0, 0));
            due(4, () -> x.size(1, 0, 0, 4));
        });
        test("promise 27: slots are from 0 to 3", () -> {
            ConvolutionBench x = filled();
            due(63, () -> x.size(0, 3, 3, 0));
            refused(x, INDEX, () -> x.size(0, -1, 0, 0), () -> x.size(0, 0, -1, 0), () -> x.size(0, 4, 0, 0),
                    () -> x.size(0, 0, 4, 0));
        });
        test("section 3: neither sequence may be empty", () -> {
            ConvolutionBench x = filled();
            refused(x, STATE, () -> x.size(0, 0, 2, 0), () -> x.size(0, 2, 0, 0), () -> x.size(1, 2, 2, 1),
                    () -> x.bound(0, 2), () -> x.bound(2, 0), () -> x.coefficient(0, 0, 2, 0, 0),
                    () -> x.coefficient(0, 2, 0, 0, 0), () -> x.isEnough(0, 0, 2), () -> x.isEnough(0, 2, 0),
                    () -> x.plan(0, 0, 2, 0, 0), () -> x.plan(0, 2, 0, 0, 0), () -> x.transformSteps(0, 0, 2, 0),
                    () -> x.transformSteps(0, 2, 0, 0), () -> x.multiply(0, 0, 2, 5, 0),
                    () -> x.multiply(0, 2, 0, 5, 0));
        });
    }

    private void bounds() {
        test("section 3: the bound by the length of the shorter sequence", () -> {
            ConvolutionBench x = filled();
            due(2 * 4 * 6, () -> x.bound(0, 1));
            due(2 * 4 * 6, () -> x.bound(1, 0));
            due(4 * 4 * 4, () -> x.bound(0, 0));
            due(4 * 4, () -> x.bound(0, 3));
        });
        test("section 3: the bound by the greatest absolute value, wherever it stands", () -> {
            ConvolutionBench x = filled();
            for (int[] terms : new int[][] {{-8, 7, 1}, {7, -8, 1}, {7, 1, -8}, {-7, -7, 8}}) {
                set(x, 2, terms);
                due(2 * 8 * 6, () -> x.bound(2, 1));
                due(2 * 8 * 6, () -> x.bound(1, 2));
            }
        });
        test("section 3: the least bound is 0", () -> {
            ConvolutionBench x = filled();
            set(x, 2, 0, 0, 0);
            due(0, () -> x.bound(2, 1));
            due(0, () -> x.bound(2, 2));
        });
        test("section 3: the greatest bound, and a coefficient that reaches it", () -> {
            ConvolutionBench x = filled();
            x.setSequence(0, 32, -9999, 0);
            x.setSequence(1, 32, 9999, 0);
            due(3199360032L, () -> x.bound(0, 1));
            due(3199360032L, () -> x.coefficient(0, 0, 0, 0, 31));
            due(-3199360032L, () -> x.coefficient(0, 0, 1, 0, 31));
        });
    }

    private void coefficients() {
        test("promise 29: k from 0 to N - 1", () -> {
            ConvolutionBench x = filled();
            due(5, () -> x.coefficient(0, 0, 1, 0, 0));
            due(24, () -> x.coefficient(0, 0, 1, 0, 4));
            due(29, () -> x.coefficient(1, 0, 1, 4, 0));
            due(38, () -> x.coefficient(1, 0, 1, 4, 3));
            due(-19, () -> x.coefficient(2, 0, 1, 4, 0));
            due(38, () -> x.coefficient(2, 0, 1, 4, 3));
            refused(x, ARGUMENT, () -> x.coefficient(0, 0, 1, 0, -1), () -> x.coefficient(0, 0, 1, 0, 5),
                    () -> x.coefficient(1, 0, 1, 4, -1), () -> x.coefficient(1, 0, 1, 4, 4),
                    () -> x.coefficient(2, 0, 1, 4, -1), () -> x.coefficient(2, 0, 1, 4, 4),
                    () -> x.coefficient(0, 0, 1, 0, LEAST), () -> x.coefficient(0, 0, 1, 0, MOST));
        });
        test("promise 29: N as for size", () -> {
            ConvolutionBench x = filled();
            due(0, () -> x.coefficient(1, 0, 1, 64, 63));
            refused(x, ARGUMENT, () -> x.coefficient(1, 0, 1, 3, 0), () -> x.coefficient(2, 1, 0, 3, 0),
                    () -> x.coefficient(1, 0, 1, 65, 0), () -> x.coefficient(2, 1, 1, 0, 0),
                    () -> x.coefficient(-1, 0, 1, 4, 0), () -> x.coefficient(3, 0, 1, 4, 0));
        });
        test("promise 29: the linear coefficients of sequences of one term", () -> {
            ConvolutionBench x = filled();
            set(x, 2, -9999);
            due(99980001, () -> x.coefficient(0, 2, 2, 0, 0));
            due(-9999 * 4, () -> x.coefficient(0, 2, 0, 0, 3));
        });
    }

    private void wraps() {
        test("section 3: N of the lengths, all but the last coefficient wrap around", () -> {
            ConvolutionBench x = filled();
            int[] cyclic = {26, 28, 26, 20};
            int[] twisted = {-24, -20, -6, 20};
            for (int k = 0; k < 4; k++) {
                int at = k;
                due(cyclic[at], () -> x.coefficient(1, 0, 0, 4, at));
                due(twisted[at], () -> x.coefficient(2, 0, 0, 4, at));
            }
        });
        test("section 3: N of 1", () -> {
            ConvolutionBench x = filled();
            set(x, 2, -7);
            due(49, () -> x.coefficient(1, 2, 2, 1, 0));
            due(49, () -> x.coefficient(2, 2, 2, 1, 0));
        });
        test("section 3: one wrap less with each N", () -> {
            ConvolutionBench x = filled();
            // The linear coefficients are 1, 4, 10, 20, 25, 24, 16.
            due(1 + 16, () -> x.coefficient(1, 0, 0, 6, 0));
            due(1 - 16, () -> x.coefficient(2, 0, 0, 6, 0));
            due(4, () -> x.coefficient(1, 0, 0, 6, 1));
            due(4, () -> x.coefficient(2, 0, 0, 6, 1));
            due(4 + 16, () -> x.coefficient(1, 0, 0, 5, 1));
            due(4 - 16, () -> x.coefficient(2, 0, 0, 5, 1));
        });
        test("section 3: from the linear N on nothing wraps around", () -> {
            ConvolutionBench x = filled();
            for (int k = 0; k < 7; k++) {
                int at = k;
                long linear = x.coefficient(0, 0, 0, 0, k);
                for (int n : new int[] {7, 8, 64}) {
                    due(linear, () -> x.coefficient(1, 0, 0, n, at));
                    due(linear, () -> x.coefficient(2, 0, 0, n, at));
                }
            }
            due(0, () -> x.coefficient(1, 0, 0, 8, 7));
            due(0, () -> x.coefficient(2, 0, 0, 64, 63));
        });
        test("section 3: the greatest sequences wrapped around", () -> {
            ConvolutionBench x = filled();
            x.setSequence(0, 32, 9999, 0);
            due(3199360032L, () -> x.coefficient(1, 0, 0, 32, 0));
            due(3199360032L, () -> x.coefficient(2, 0, 0, 32, 31));
            due(-30 * 99980001L, () -> x.coefficient(2, 0, 0, 32, 0));
        });
    }

    private void enough() {
        test("section 3: no primes are not enough, even for the bound 0", () -> {
            ConvolutionBench x = withPrimes(17);
            set(x, 0, 0);
            due(false, () -> x.isEnough(0, 0, 0));
            due(true, () -> x.isEnough(1, 0, 0));
        });
        test("section 3: the product of the primes is greater than twice the bound", () -> {
            ConvolutionBench x = withPrimes(17, 3, 5);
            set(x, 0, 1);
            set(x, 1, 8);
            due(true, () -> x.isEnough(1, 0, 1));
            set(x, 1, -9);
            due(false, () -> x.isEnough(1, 0, 1));
            set(x, 1, 7);
            due(true, () -> x.isEnough(6, 0, 1));
            set(x, 1, 8);
            due(false, () -> x.isEnough(6, 0, 1));
            set(x, 1, 1);
            due(true, () -> x.isEnough(2, 0, 1));
            set(x, 1, 2);
            due(false, () -> x.isEnough(2, 0, 1));
        });
        test("promise 30: products beside twice the greatest bound", () -> {
            // 72169 * 88663 is 17 less, 75781 * 84437 is 233 more.
            ConvolutionBench x = withPrimes(72169, 88663, 75781, 84437);
            x.setSequence(0, 32, 9999, 0);
            due(false, () -> x.isEnough(3, 0, 0));
            due(true, () -> x.isEnough(12, 0, 0));
            due(false, () -> x.isEnough(8, 0, 0));
        });
        test("promise 30: the greatest product of six primes does not run over", () -> {
            ConvolutionBench x = withPrimes(99929, 99961, 99971, 99989, 99991, 100003);
            x.setSequence(0, 32, 9999, 0);
            for (int set = 1; set < 64; set++) {
                int asked = set;
                due(Integer.bitCount(set) > 1, () -> x.isEnough(asked, 0, 0));
            }
        });
        test("promise 30: a set has no bit behind the last prime", () -> {
            ConvolutionBench x = withPrimes(17, 13);
            x.append(0, 1);
            due(true, () -> x.isEnough(3, 0, 0));
            refused(x, INDEX, () -> x.isEnough(4, 0, 0), () -> x.isEnough(5, 0, 0), () -> x.isEnough(-1, 0, 0),
                    () -> x.isEnough(LEAST, 0, 0), () -> x.isEnough(MOST, 0, 0));
        });
    }
}
