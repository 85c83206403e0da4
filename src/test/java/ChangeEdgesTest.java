/** The changes of section 5 and promise 41: a test for each sentence that names an edge. */
final class ChangeEdgesTest extends Suite {
    private static final int CALLS = 512;

    @Override
    void run() {
        counts();
        rings();
        whatStays();
        whatComesBack();
        test("the 512th call of an object answers like the others", () -> {
            ConvolutionBench x = new ConvolutionBench();
            for (int call = 1; call < CALLS - 1; call += 2) {
                due(1, () -> x.append(0, 5));
                due(1, () -> x.cut(0, 0));
            }
            due(0, () -> x.length(0));
            due(7, x::undo);
        });
    }

    private void counts() {
        test("promise 41: there is nothing to undo at first", () -> {
            ConvolutionBench x = new ConvolutionBench();
            refused(x, STATE, x::undo);
        });
        test("promise 41: one change can be undone once", () -> {
            ConvolutionBench x = withPrimes(17);
            due(0, x::undo);
            refused(x, STATE, x::undo);
            due(0, x::primes);
        });
        for (int changes = 7; changes <= 10; changes++) {
            int made = changes;
            int kept = Math.min(8, changes);
            test("section 5: of " + made + " changes the latest " + kept + " can be undone", () -> {
                ConvolutionBench x = new ConvolutionBench();
                for (int i = 0; i < made; i++) {
                    x.append(0, i);
                }
                for (int left = kept - 1; left >= 0; left--) {
                    int want = left;
                    due(want, x::undo);
                }
                refused(x, STATE, x::undo);
                due(made - kept, () -> x.length(0));
            });
        }
        test("section 5: calls that leave all as it is are changes, too", () -> {
            ConvolutionBench x = new ConvolutionBench();
            x.swap(0, 0);
            x.cut(0, 0);
            x.setSequence(0, 0, 0, 0);
            x.load(0);
            for (int left = 3; left >= 0; left--) {
                int want = left;
                due(want, x::undo);
            }
            refused(x, STATE, x::undo);
        });
    }

    private void rings() {
        test("section 5: undone changes make no room for older ones", () -> {
            ConvolutionBench x = new ConvolutionBench();
            for (int i = 0; i < 9; i++) {
                x.append(0, i);
            }
            due(7, x::undo);
            x.append(1, 50);
            for (int left = 7; left >= 0; left--) {
                int want = left;
                due(want, x::undo);
            }
            refused(x, STATE, x::undo);
            due(" 0", () -> terms(x, 0));
            due("", () -> terms(x, 1));
        });
        test("section 5: eight changes behind eight undone ones", () -> {
            ConvolutionBench x = new ConvolutionBench();
            for (int round = 0; round < 3; round++) {
                for (int i = 0; i < 8; i++) {
                    x.append(round, i);
                }
                for (int left = 7; left >= 0; left--) {
                    int want = left;
                    due(want, x::undo);
                }
                refused(x, STATE, x::undo);
                due(0, () -> x.length(0) + x.length(1) + x.length(2));
            }
        });
    }

    private void whatStays() {
        test("section 5: undo leaves the text buffer", () -> {
            ConvolutionBench x = withPrimes(17);
            feed(x, "prime 19;");
            due(0, x::undo);
            due(1, () -> x.load(9));
            due(19, () -> x.prime(0, 0));
        });
        test("section 5: undo of load does not bring its text back", () -> {
            ConvolutionBench x = new ConvolutionBench();
            load(x, "prime 19;");
            due(0, x::undo);
            refused(x, ARGUMENT, () -> x.load(1));
        });
        test("section 5: undo leaves the position of the error", () -> {
            ConvolutionBench x = withPrimes(17);
            load(x, "prime 18;");
            due(0, x::undo);
            due(6, x::errorPosition);
        });
        test("section 5: undo of load leaves that it found no error", () -> {
            ConvolutionBench x = new ConvolutionBench();
            load(x, "prime 18;");
            load(x, "prime 19;");
            due(0, x::undo);
            due(NONE, x::errorPosition);
        });
        test("section 5: a text with an error is no change", () -> {
            ConvolutionBench x = withPrimes(17);
            load(x, "prime 19;prime 18;");
            load(x, "prime");
            due(0, x::undo);
            refused(x, STATE, x::undo);
        });
    }

    private void whatComesBack() {
        test("section 5: undo brings back the digits of a product by other primes", () -> {
            ConvolutionBench x = withPrimes(17, 13, 97);
            x.setSequence(0, 2, 30, 7);
            x.multiply(1, 0, 0, 2, 7);
            String before = look(x);
            x.removePrime(1);
            x.multiply(0, 0, 0, 8, 1);
            due("-1 -7 -8", () -> values(x));
            x.undo();
            x.undo();
            due(before, () -> look(x));
            due("2269 2220", () -> values(x));
            due("8,3,10", () -> digits(x, 0));
        });
        test("section 5: undo brings back a product of six primes behind one of one prime", () -> {
            ConvolutionBench x = Benches.sixPrimes();
            x.append(0, -1);
            x.append(1, 1);
            x.multiply(0, 0, 1, 1, 63);
            x.multiply(0, 1, 1, 1, 1);
            x.undo();
            due("2,4,6,10,12,16", () -> digits(x, 0));
            due(63, () -> x.product(1));
            due(-1, () -> x.value(0));
        });
        test("section 5: undo brings back a product that load took away", () -> {
            ConvolutionBench x = Benches.multiplied();
            String before = look(x);
            x.load(0);
            refused(x, STATE, () -> x.product(0));
            x.undo();
            due(before, () -> look(x));
        });
        test("section 5: undo brings back the numbers of the primes", () -> {
            ConvolutionBench x = withPrimes(17, 13, 97);
            x.removePrime(0);
            due(13, () -> x.prime(0, 0));
            x.undo();
            due(17, () -> x.prime(0, 0));
            due(13, () -> x.prime(1, 0));
            due(97, () -> x.prime(2, 0));
        });
        test("section 5: undo brings back terms that were cut and overwritten", () -> {
            ConvolutionBench x = new ConvolutionBench();
            x.setSequence(0, 32, 1, 1);
            x.cut(0, 30);
            x.append(0, -5);
            x.undo();
            x.undo();
            due(32, () -> x.length(0));
            due(31, () -> x.term(0, 30));
        });
    }
}
