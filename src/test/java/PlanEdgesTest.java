/** Section 4 and promises 31 and 32: a test for each sentence that names an edge. */
final class PlanEdgesTest extends Suite {
    @Override
    void run() {
        parts();
        ties();
        lengths();
        twistedLengths();
        enough();
        manyPrimes();
    }

    /** Slots 0 and 1 with so many ones each. */
    private static ConvolutionBench ones(int length, int other, int... primes) {
        ConvolutionBench x = withPrimes(primes);
        x.setSequence(0, length, 1, 0);
        x.setSequence(1, other, 1, 0);
        return x;
    }

    private void best(ConvolutionBench x, int kind, int n, int... wanted) {
        for (int what = 0; what < 3; what++) {
            int part = what;
            due(wanted[part], () -> x.plan(kind, 0, 1, n, part));
        }
    }

    private void parts() {
        test("promise 31: what is from 0 to 2", () -> {
            ConvolutionBench x = ones(32, 32, 12289);
            best(x, 1, 32, 512, 32, 1);
            refused(x, ARGUMENT, () -> x.plan(1, 0, 1, 32, -1), () -> x.plan(1, 0, 1, 32, 3),
                    () -> x.plan(1, 0, 1, 32, Integer.MIN_VALUE), () -> x.plan(1, 0, 1, 32, Integer.MAX_VALUE));
        });
        test("promise 31: the schoolbook plan has length 0 and set 0", () -> best(ones(4, 2, 97), 0, 0, 8, 0, 0));
        test("section 4: without primes there is the schoolbook plan alone", () -> {
            best(ones(1, 1), 0, 0, 1, 0, 0);
            best(ones(32, 32), 0, 0, 1024, 0, 0);
            best(ones(32, 31), 1, 32, 992, 0, 0);
            ConvolutionBench x = ones(32, 32);
            refused(x, ELEMENT, () -> x.transformSteps(0, 0, 1, 0), () -> x.transformSteps(1, 0, 1, 32),
                    () -> x.transformSteps(2, 0, 1, 64));
        });
        test("promises 31 and 32: N as for size", () -> {
            ConvolutionBench x = ones(4, 2, 193);
            due(28, () -> x.transformSteps(1, 0, 1, 4));
            due(8, () -> x.plan(1, 0, 1, 64, 0));
            refused(x, ARGUMENT, () -> x.plan(1, 0, 1, 3, 0), () -> x.plan(2, 0, 1, 65, 0), () -> x.plan(1, 1, 0, 3, 0),
                    () -> x.plan(-1, 0, 1, 4, 0), () -> x.plan(3, 0, 1, 4, 0), () -> x.transformSteps(1, 0, 1, 3),
                    () -> x.transformSteps(2, 0, 1, 65), () -> x.transformSteps(-1, 0, 1, 4));
        });
    }

    private void ties() {
        test("section 4: of equal plans the schoolbook plan is the best", () -> {
            // One transform plan of length 32 has 512 steps.
            best(ones(32, 16, 12289), 1, 32, 512, 0, 0);
            best(ones(16, 32, 12289), 1, 32, 512, 0, 0);
            // 25 * (3 * 8 + 1) is 625.
            best(ones(25, 25, 151), 1, 25, 625, 0, 0);
        });
        test("section 4: a transform plan with one step less or more", () -> {
            // Length 27: 3 * 162 + 27 are 513 steps, against 19 * 27 and 20 * 27 products.
            best(ones(27, 19, 109), 1, 27, 513, 0, 0);
            best(ones(27, 20, 109), 1, 27, 513, 27, 1);
            best(ones(32, 17, 12289), 1, 32, 512, 32, 1);
        });
        test("section 4: of equal transform plans the lowest set is the best", () -> {
            best(ones(32, 32, 12289, 40961, 65537), 1, 32, 512, 32, 1);
            best(ones(32, 32, 5, 40961, 65537), 1, 32, 512, 32, 2);
            best(ones(32, 32, 5, 13, 65537, 7, 12289), 1, 32, 512, 32, 4);
            best(ones(32, 32, 3, 5, 7, 11, 13, 12289), 1, 32, 512, 32, 32);
        });
        // Plans of kinds 1 and 2 have one M, and for kind 0 no plan with transforms has less steps than the schoolbook
        // plan: the lowest M of several cannot be seen.
        test("section 4: for kind 0 the schoolbook plan is always the best", () -> {
            for (int length = 1; length <= 32; length++) {
                best(ones(length, length, 12289, 55441), 0, 0, length * length, 0, 0);
            }
        });
    }

    private void lengths() {
        test("section 4: for kind 1 the transform length is N, not more", () -> {
            ConvolutionBench x = ones(16, 16, 353);
            due(512, () -> x.transformSteps(1, 0, 1, 32));
            due(3 * 64 + 16, () -> x.transformSteps(1, 0, 1, 16));
            refused(x, ELEMENT, () -> x.transformSteps(1, 0, 1, 31), () -> x.transformSteps(1, 0, 1, 17));
        });
        test("section 4: for kind 0 the transform length is N at least", () -> {
            // 48 divides 96, and nothing from 49 to 64 does.
            ConvolutionBench x = ones(32, 17, 97);
            due(3 * 288 + 48, () -> x.transformSteps(0, 0, 1, 0));
            x.append(1, 1);
            refused(x, ELEMENT, () -> x.transformSteps(0, 0, 1, 0));
        });
        test("section 4: for kind 0 the transform length is 64 at most", () -> {
            // N is 63: 63 divides 126, 64 divides 192, 65 and not 63 or 64 divides 130.
            due(3 * 630 + 63, () -> ones(32, 32, 127).transformSteps(0, 0, 1, 0));
            due(3 * 384 + 64, () -> ones(32, 32, 193).transformSteps(0, 0, 1, 0));
            ConvolutionBench x = ones(32, 32, 131);
            refused(x, ELEMENT, () -> x.transformSteps(0, 0, 1, 0));
        });
        test("section 4: for kind 0 a longer transform may have less steps", () -> {
            // N is 31, and both 31 and 32 divide 5952.
            due(3 * 160 + 32, () -> ones(16, 16, 5953).transformSteps(0, 0, 1, 0));
            due(3 * 930 + 31, () -> ones(16, 16, 5953).transformSteps(1, 0, 1, 31));
        });
        test("section 4: the least transform", () -> {
            due(1, () -> ones(1, 1, 3).transformSteps(0, 0, 1, 0));
            due(1, () -> ones(1, 1, 3).transformSteps(1, 0, 1, 1));
            due(4, () -> ones(1, 1, 3).transformSteps(2, 0, 1, 1));
        });
        test("section 4: the greatest N for kinds 1 and 2", () -> {
            due(3 * 384 + 64, () -> ones(1, 1, 257).transformSteps(1, 0, 1, 64));
            due(3 * 384 + 4 * 64, () -> ones(1, 1, 257).transformSteps(2, 0, 1, 64));
        });
        test("section 4: steps by a transform that is cheapest by chirps", () ->
                due(3 * 2938 + 61, () -> ones(1, 1, 39041).transformSteps(1, 0, 1, 61)));
    }

    private void twistedLengths() {
        test("section 4: for kind 2 even 2 * M divides p - 1", () -> {
            ConvolutionBench x = ones(32, 32, 97, 193);
            best(x, 2, 32, 3 * 160 + 4 * 32, 32, 2);
            x.removePrime(1);
            refused(x, ELEMENT, () -> x.transformSteps(2, 0, 1, 32));
            best(x, 2, 32, 1024, 0, 0);
            best(x, 1, 32, 512, 32, 1);
        });
        test("section 4: for kind 2 the transform length is N, not more", () -> {
            ConvolutionBench x = ones(4, 2, 17);
            due(3 * 24 + 4 * 8, () -> x.transformSteps(2, 0, 1, 8));
            refused(x, ELEMENT, () -> x.transformSteps(2, 0, 1, 7), () -> x.transformSteps(2, 0, 1, 5));
        });
    }

    private void enough() {
        test("section 4: the primes of a plan are enough", () -> {
            ConvolutionBench x = withPrimes(17);
            set(x, 0, 8, 0);
            set(x, 1, 1);
            due(3 * 2 + 2, () -> x.transformSteps(1, 0, 1, 2));
            set(x, 0, 9, 0);
            refused(x, ELEMENT, () -> x.transformSteps(1, 0, 1, 2));
        });
        test("section 4: primes that are enough together alone", () -> {
            ConvolutionBench x = withPrimes(3, 5);
            set(x, 0, 7);
            set(x, 1, 1);
            due(2 * 1 + 1, () -> x.transformSteps(1, 0, 1, 1));
            set(x, 0, 8);
            refused(x, ELEMENT, () -> x.transformSteps(1, 0, 1, 1));
        });
        test("section 4: each prime is enough for the bound 0", () -> {
            ConvolutionBench x = withPrimes(3);
            set(x, 0, 0, 0);
            due(8, () -> x.transformSteps(1, 0, 0, 2));
            refused(x, ELEMENT, () -> x.transformSteps(1, 0, 0, 3));
        });
        test("section 4: M divides p - 1 for each prime of the set", () -> {
            ConvolutionBench x = withPrimes(3, 13, 7);
            set(x, 0, 5, 0, 0);
            set(x, 1, 4);
            // Twice the bound is 40, 3 divides 12 and 6 but not 2.
            due(2 * (3 * 6 + 3) + 3, () -> x.transformSteps(1, 0, 1, 3));
            x.removePrime(2);
            refused(x, ELEMENT, () -> x.transformSteps(1, 0, 1, 3));
        });
    }

    private void manyPrimes() {
        test("section 4: two primes and one recombination", () -> {
            ConvolutionBench x = withPrimes(12289, 40961);
            x.setSequence(0, 32, 100, 0);
            due(2 * 512 + 32, () -> x.transformSteps(1, 0, 0, 32));
            due(1024, () -> x.plan(1, 0, 0, 32, 0));
            due(0, () -> x.plan(1, 0, 0, 32, 1));
        });
        test("section 4: six primes, of which none can be left out", () -> {
            ConvolutionBench x = Benches.sixPrimes();
            set(x, 0, 357);
            due(6 * 1 + 15, () -> x.transformSteps(0, 0, 0, 0));
            due(6 * 1 + 15, () -> x.transformSteps(1, 0, 0, 1));
            due(6 * 4 + 15, () -> x.transformSteps(2, 0, 0, 1));
            due(6 * 8 + 30, () -> x.transformSteps(1, 0, 0, 2));
            set(x, 0, 358);
            refused(x, ELEMENT, () -> x.transformSteps(0, 0, 0, 0));
        });
        test("section 4: fewer primes are better than more", () -> {
            ConvolutionBench x = withPrimes(3, 5, 97);
            set(x, 0, 1);
            set(x, 1, 7);
            due(1, () -> x.transformSteps(1, 0, 1, 1));
            x.removePrime(2);
            due(3, () -> x.transformSteps(1, 0, 1, 1));
        });
    }
}
