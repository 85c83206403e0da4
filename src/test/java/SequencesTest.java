/** Promises 16 to 21: the slots. */
final class SequencesTest extends Suite {
    @Override
    void run() {
        looking();
        evenSequences();
        appendingAndCutting();
        swapping();
    }

    private void looking() {
        test("promise 16: length", () -> {
            ConvolutionBench x = new ConvolutionBench();
            set(x, 3, 4, 5, 6);
            due(3, () -> x.length(3));
            due(0, () -> x.length(2));
            refused(x, INDEX, () -> x.length(4), () -> x.length(-1), () -> x.length(Integer.MIN_VALUE));
        });
        test("promise 17: term", () -> {
            ConvolutionBench x = new ConvolutionBench();
            set(x, 1, 4, -5, 6);
            due(4, () -> x.term(1, 0));
            due(-5, () -> x.term(1, 1));
            due(6, () -> x.term(1, 2));
            refused(x, INDEX, () -> x.term(1, 3), () -> x.term(1, -1), () -> x.term(0, 0), () -> x.term(4, 0),
                    () -> x.term(-1, 0));
            x.cut(1, 2);
            refused(x, INDEX, () -> x.term(1, 2));
        });
    }

    private void evenSequences() {
        test("promise 18: setSequence", () -> {
            ConvolutionBench x = new ConvolutionBench();
            due(0, () -> x.setSequence(0, 4, -3, 2));
            due(" -3 -1 1 3", () -> terms(x, 0));
            due(4, () -> x.setSequence(0, 32, 9999, -1));
            due(9968, () -> x.term(0, 31));
            due(32, () -> x.setSequence(0, 0, Integer.MAX_VALUE, 999));
            due(0, () -> x.length(0));
            due(0, () -> x.setSequence(0, 1, -9999, -999));
            due(1, () -> x.setSequence(0, 21, -9990, 999));
            due(9990, () -> x.term(0, 20));
        });
        test("promise 18: setSequence is a change even if it leaves the sequence as it is", () -> {
            ConvolutionBench x = new ConvolutionBench();
            x.setSequence(0, 0, 0, 0);
            due(0, x::undo);
        });
        test("promise 18: wrong inputs", () -> {
            ConvolutionBench x = new ConvolutionBench();
            set(x, 0, 1, 2);
            refused(x, INDEX, () -> x.setSequence(4, 33, 0, 0), () -> x.setSequence(-1, 1, 0, 0));
            refused(x, ARGUMENT, () -> x.setSequence(0, 33, 0, 0), () -> x.setSequence(0, -1, 0, 0),
                    () -> x.setSequence(0, 1, 0, 1000), () -> x.setSequence(0, 1, 0, -1000),
                    () -> x.setSequence(0, 0, 0, Integer.MIN_VALUE), () -> x.setSequence(0, 1, 10000, 0),
                    () -> x.setSequence(0, 1, -10000, 0), () -> x.setSequence(0, 2, 9999, 1),
                    () -> x.setSequence(0, 2, -9999, -1), () -> x.setSequence(0, 22, -9990, 999),
                    () -> x.setSequence(0, 2, 10000, -1), () -> x.setSequence(0, 32, Integer.MAX_VALUE, 999),
                    () -> x.setSequence(0, 32, Integer.MIN_VALUE, -999));
        });
    }

    private void appendingAndCutting() {
        test("promise 19: append", () -> {
            ConvolutionBench x = new ConvolutionBench();
            due(1, () -> x.append(2, 9999));
            due(2, () -> x.append(2, -9999));
            due(" 9999 -9999", () -> terms(x, 2));
            x.setSequence(2, 31, 0, 1);
            due(32, () -> x.append(2, 7));
            due(7, () -> x.term(2, 31));
            refused(x, STATE, () -> x.append(2, 7));
            refused(x, ARGUMENT, () -> x.append(2, 10000), () -> x.append(0, 10000), () -> x.append(0, -10000),
                    () -> x.append(0, Integer.MIN_VALUE));
            refused(x, INDEX, () -> x.append(4, 10000), () -> x.append(-1, 0));
        });
        test("promise 20: cut", () -> {
            ConvolutionBench x = new ConvolutionBench();
            set(x, 0, 1, 2, 3, 4);
            due(0, () -> x.cut(0, 4));
            due(3, () -> x.cut(0, 1));
            due(" 1", () -> terms(x, 0));
            due(2, () -> x.append(0, 9));
            due(" 1 9", () -> terms(x, 0));
            due(2, () -> x.cut(0, 0));
            due(0, () -> x.cut(0, 0));
            refused(x, ARGUMENT, () -> x.cut(0, 1), () -> x.cut(0, -1), () -> x.cut(1, 33));
            refused(x, INDEX, () -> x.cut(4, 0), () -> x.cut(-1, 9));
        });
    }

    private void swapping() {
        test("promise 21: swap", () -> {
            ConvolutionBench x = new ConvolutionBench();
            set(x, 0, 1, 2);
            set(x, 1, 7);
            due(1, () -> x.swap(0, 1));
            due(" 7", () -> terms(x, 0));
            due(" 1 2", () -> terms(x, 1));
            x.append(0, 8);
            due(" 7 8", () -> terms(x, 0));
            due(" 1 2", () -> terms(x, 1));
            due(2, () -> x.swap(3, 1));
            due(2, () -> x.swap(3, 3));
            refused(x, INDEX, () -> x.swap(0, 4), () -> x.swap(4, 0), () -> x.swap(-1, 0), () -> x.swap(0, -1));
        });
        test("promise 21: swap of a slot with itself is a change", () -> {
            ConvolutionBench x = new ConvolutionBench();
            x.swap(2, 2);
            due(0, x::undo);
        });
    }
}
