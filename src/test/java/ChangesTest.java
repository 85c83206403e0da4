/** Promise 41 and what section 5 says of changes. */
final class ChangesTest extends Suite {
    interface Change {
        void make(ConvolutionBench x);
    }

    @Override
    void run() {
        eachChange();
        depth();
        noChanges();
    }

    private static ConvolutionBench rich() {
        ConvolutionBench x = new ConvolutionBench();
        load(x, "prime 17;prime 13;prime 97;sequence 0 1 2 3 4;sequence 1 5 6;sequence 2 -7;");
        x.multiply(2, 0, 1, 4, 4);
        return x;
    }

    private void undone(String name, Change change) {
        test("promise 41: undo of " + name, () -> {
            ConvolutionBench x = rich();
            String before = look(x);
            change.make(x);
            due(2, x::undo);
            due(before, () -> look(x));
            due(0, () -> x.undo() - 1);
            due(0, x::undo);
            refused(x, STATE, x::undo);
        });
    }

    private void eachChange() {
        undone("load", x -> load(x, "prime 5;sequence 3 1 1;"));
        undone("load of the empty text", x -> x.load(0));
        undone("addPrime", x -> x.addPrime(19));
        undone("removePrime", x -> x.removePrime(0));
        undone("removePrime of the last one", x -> x.removePrime(2));
        undone("setSequence", x -> x.setSequence(0, 32, 7, 7));
        undone("append", x -> x.append(1, 7));
        undone("append to an empty slot", x -> x.append(3, 7));
        undone("cut", x -> x.cut(0, 1));
        undone("cut of nothing", x -> x.cut(3, 0));
        undone("swap", x -> x.swap(0, 3));
        undone("swap of a slot with itself", x -> x.swap(1, 1));
        undone("multiply", x -> x.multiply(0, 0, 0, 8, 1));
        undone("store", x -> x.store(0));
        test("promise 41: undo brings back that there was no product", () -> {
            ConvolutionBench x = withPrimes(17);
            x.append(0, 3);
            x.multiply(0, 0, 0, 1, 1);
            x.undo();
            refused(x, STATE, () -> x.product(0), () -> x.value(0), () -> x.digit(0, 0), () -> x.productAt(1),
                    () -> x.store(0), () -> x.agreeing(0, 0), () -> x.residue(0, 0));
        });
        test("promise 41: a swap behind an undone one leaves the slots apart", () -> {
            ConvolutionBench x = rich();
            x.swap(0, 1);
            x.swap(1, 2);
            x.undo();
            x.undo();
            x.append(0, 99);
            due(" 1 2 3 4 99", () -> terms(x, 0));
            due(" 5 6", () -> terms(x, 1));
            due(" -7", () -> terms(x, 2));
        });
    }

    private void depth() {
        test("promise 41: eight changes and no more", () -> {
            ConvolutionBench x = new ConvolutionBench();
            for (int i = 0; i < 20; i++) {
                x.append(0, i);
            }
            for (int left = 7; left >= 0; left--) {
                int want = left;
                due(want, x::undo);
                due(12 + left, () -> x.length(0));
            }
            refused(x, STATE, x::undo);
            due(12, () -> x.length(0));
        });
        test("promise 41: changes behind undone ones", () -> {
            ConvolutionBench x = new ConvolutionBench();
            for (int i = 0; i < 10; i++) {
                x.append(0, i);
            }
            due(7, x::undo);
            due(6, x::undo);
            x.append(1, 50);
            due(6, x::undo);
            due(0, () -> x.length(1));
            due(5, x::undo);
            due(7, () -> x.length(0));
            for (int i = 0; i < 3; i++) {
                x.append(2, i);
            }
            due(7, x::undo);
            x.append(2, 9);
            x.append(2, 9);
            due(7, x::undo);
            due(" 0 1 9", () -> terms(x, 2));
        });
    }

    private void noChanges() {
        test("section 5: questions, refused calls, feed and texts with errors are no changes", () -> {
            ConvolutionBench x = withPrimes(17);
            x.append(0, 2);
            load(x, "prime 4;");
            x.feed(0, 0, 0, 0, 0);
            x.coefficient(0, 0, 0, 0, 0);
            x.transformSteps(0, 0, 0, 1);
            refused(x, ARGUMENT, () -> x.addPrime(17), () -> x.load(21), () -> x.cut(0, 2));
            refused(x, INDEX, () -> x.removePrime(1), () -> x.swap(0, 4));
            refused(x, ELEMENT, () -> x.multiply(1, 0, 0, 3, 1));
            due(1, x::undo);
            due(0, x::undo);
            due(0, x::primes);
            due(40, () -> x.feed(0, 0, 0, 0, 0));
            due(6, x::errorPosition);
        });
    }
}
