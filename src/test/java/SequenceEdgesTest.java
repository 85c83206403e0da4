/** The slots of section 2 and promises 16 to 21: a test for each sentence that names an edge. */
final class SequenceEdgesTest extends Suite {
    @Override
    void run() {
        slots();
        terms();
        evenSequences();
        evenEnds();
        appending();
        cutting();
        swapping();
    }

    private void slots() {
        test("section 2: there are 4 slots, numbered from 0", () -> {
            ConvolutionBench x = new ConvolutionBench();
            for (int slot = 0; slot < 4; slot++) {
                int at = slot;
                due(1, () -> x.append(at, at + 5));
                due(1, () -> x.length(at));
                due(at + 5, () -> x.term(at, 0));
            }
            for (int slot : new int[] {-1, 4, LEAST, MOST}) {
                refused(x, INDEX, () -> x.length(slot), () -> x.term(slot, 0), () -> x.setSequence(slot, 0, 0, 0),
                        () -> x.append(slot, 0), () -> x.cut(slot, 0), () -> x.swap(slot, 0), () -> x.swap(0, slot));
            }
        });
        test("section 2: at first all slots are empty", () -> {
            ConvolutionBench x = new ConvolutionBench();
            for (int slot = 0; slot < 4; slot++) {
                int at = slot;
                due(0, () -> x.length(at));
                refused(x, INDEX, () -> x.term(at, 0));
            }
        });
        test("section 2: a sequence has 32 terms at most", () -> {
            ConvolutionBench x = new ConvolutionBench();
            for (int k = 0; k < 32; k++) {
                int term = k;
                due(k + 1, () -> x.append(3, term));
            }
            due(32, () -> x.length(3));
            refused(x, STATE, () -> x.append(3, 0));
            due(0, () -> x.term(3, 0));
            due(31, () -> x.term(3, 31));
        });
        test("promise 16: lengths from 0 to 32", () -> {
            ConvolutionBench x = new ConvolutionBench();
            for (int length = 0; length <= 32; length++) {
                int want = length;
                x.setSequence(2, length, 1, 1);
                due(want, () -> x.length(2));
            }
        });
    }

    private void terms() {
        test("promise 17: terms are numbered from 0", () -> {
            ConvolutionBench x = new ConvolutionBench();
            x.setSequence(1, 3, 10, 10);
            due(10, () -> x.term(1, 0));
            due(20, () -> x.term(1, 1));
            due(30, () -> x.term(1, 2));
            refused(x, INDEX, () -> x.term(1, -1), () -> x.term(1, 3), () -> x.term(1, LEAST), () -> x.term(1, MOST));
        });
        test("promise 17: the last of 32 terms, and none behind it", () -> {
            ConvolutionBench x = new ConvolutionBench();
            x.setSequence(0, 32, 0, 1);
            due(31, () -> x.term(0, 31));
            refused(x, INDEX, () -> x.term(0, 32));
        });
        test("promise 17: an empty sequence has no terms", () -> {
            ConvolutionBench x = new ConvolutionBench();
            x.append(0, 5);
            x.cut(0, 0);
            refused(x, INDEX, () -> x.term(0, 0), () -> x.term(0, -1));
        });
    }

    private void evenSequences() {
        test("promise 18: a length from 0 to 32", () -> {
            ConvolutionBench x = new ConvolutionBench();
            due(0, () -> x.setSequence(0, 32, 5, 0));
            due(32, () -> x.setSequence(0, 0, 5, 0));
            due(0, () -> x.length(0));
            refused(x, ARGUMENT, () -> x.setSequence(0, -1, 5, 0), () -> x.setSequence(0, 33, 5, 0),
                    () -> x.setSequence(0, LEAST, 5, 0), () -> x.setSequence(0, MOST, 5, 0));
        });
        test("promise 18: a step from -999 to 999", () -> {
            ConvolutionBench x = new ConvolutionBench();
            x.setSequence(0, 3, 1, 999);
            due(" 1 1000 1999", () -> terms(x, 0));
            x.setSequence(0, 3, 1, -999);
            due(" 1 -998 -1997", () -> terms(x, 0));
            refused(x, ARGUMENT, () -> x.setSequence(0, 3, 1, 1000), () -> x.setSequence(0, 3, 1, -1000),
                    () -> x.setSequence(0, 3, 1, LEAST), () -> x.setSequence(0, 3, 1, MOST));
        });
        test("promise 18: a step out of its range is refused without a second term as well", () -> {
            ConvolutionBench x = new ConvolutionBench();
            refused(x, ARGUMENT, () -> x.setSequence(0, 0, 0, 1000), () -> x.setSequence(0, 1, 0, -1000),
                    () -> x.setSequence(0, 0, 0, LEAST), () -> x.setSequence(0, 1, 0, MOST));
        });
        test("promise 18: the previous length is told, and nothing of a longer sequence is left", () -> {
            ConvolutionBench x = new ConvolutionBench();
            due(0, () -> x.setSequence(0, 5, 1, 1));
            due(5, () -> x.setSequence(0, 2, 7, 1));
            due(" 7 8", () -> terms(x, 0));
            due(2, () -> x.setSequence(0, 4, 1, 0));
            due(" 1 1 1 1", () -> terms(x, 0));
        });
    }

    private void evenEnds() {
        test("promise 18: the first term is from -9999 to 9999", () -> {
            ConvolutionBench x = new ConvolutionBench();
            due(0, () -> x.setSequence(0, 2, 9999, -1));
            due(2, () -> x.setSequence(0, 2, -9999, 1));
            refused(x, ARGUMENT, () -> x.setSequence(0, 2, 10000, -1), () -> x.setSequence(0, 2, -10000, 1),
                    () -> x.setSequence(0, 1, 10000, 0), () -> x.setSequence(0, 1, -10000, 0));
        });
        test("promise 18: the last term is from -9999 to 9999", () -> {
            ConvolutionBench x = new ConvolutionBench();
            due(0, () -> x.setSequence(0, 3, 9997, 1));
            due(3, () -> x.setSequence(0, 3, -9997, -1));
            due(-9999, () -> x.term(0, 2));
            due(3, () -> x.setSequence(0, 32, 9999 - 31 * 322, 322));
            due(9999, () -> x.term(0, 31));
            refused(x, ARGUMENT, () -> x.setSequence(0, 3, 9998, 1), () -> x.setSequence(0, 3, -9998, -1),
                    () -> x.setSequence(0, 32, 10000 - 31 * 322, 322), () -> x.setSequence(0, 32, 999, 999));
        });
        test("promise 18: the term behind the last may lie outside", () -> {
            ConvolutionBench x = new ConvolutionBench();
            due(0, () -> x.setSequence(0, 1, 9999, 999));
            due(1, () -> x.setSequence(0, 1, -9999, -999));
            due(1, () -> x.setSequence(0, 2, 9000, 999));
        });
        test("promise 18: a sequence without terms has none that is out of range", () -> {
            ConvolutionBench x = new ConvolutionBench();
            x.append(0, 1);
            due(1, () -> x.setSequence(0, 0, 10000, 1));
            due(0, () -> x.setSequence(0, 0, LEAST, -999));
            due(0, () -> x.setSequence(0, 0, MOST, 999));
        });
        test("promise 18: terms that would run over are refused", () -> {
            ConvolutionBench x = new ConvolutionBench();
            refused(x, ARGUMENT, () -> x.setSequence(0, 32, MOST, 999), () -> x.setSequence(0, 32, LEAST, -999),
                    () -> x.setSequence(0, 32, MOST - 900, 31), () -> x.setSequence(0, 1, MOST, 0));
        });
    }

    private void appending() {
        test("promise 19: a value from -9999 to 9999", () -> {
            ConvolutionBench x = new ConvolutionBench();
            due(1, () -> x.append(0, -9999));
            due(2, () -> x.append(0, 9999));
            due(3, () -> x.append(0, 0));
            due(" -9999 9999 0", () -> terms(x, 0));
            refused(x, ARGUMENT, () -> x.append(0, -10000), () -> x.append(0, 10000), () -> x.append(0, LEAST),
                    () -> x.append(0, MOST));
        });
        test("promise 19: the 32nd term is taken, the 33rd is not", () -> {
            ConvolutionBench x = new ConvolutionBench();
            x.setSequence(0, 31, 0, 0);
            due(32, () -> x.append(0, 4));
            refused(x, STATE, () -> x.append(0, 4));
            x.cut(0, 31);
            due(32, () -> x.append(0, 5));
        });
    }

    private void cutting() {
        test("promise 20: a length from 0 to that of the sequence", () -> {
            ConvolutionBench x = new ConvolutionBench();
            x.setSequence(0, 32, 1, 1);
            due(0, () -> x.cut(0, 32));
            due(1, () -> x.cut(0, 31));
            due(31, () -> x.cut(0, 0));
            x.setSequence(0, 5, 1, 1);
            refused(x, ARGUMENT, () -> x.cut(0, 6), () -> x.cut(0, -1), () -> x.cut(0, LEAST), () -> x.cut(0, MOST));
        });
        test("promise 20: an empty sequence can be cut to no terms alone", () -> {
            ConvolutionBench x = new ConvolutionBench();
            due(0, () -> x.cut(0, 0));
            refused(x, ARGUMENT, () -> x.cut(0, 1), () -> x.cut(0, -1));
        });
        test("promise 20: the first terms stay", () -> {
            ConvolutionBench x = new ConvolutionBench();
            x.setSequence(0, 5, 1, 1);
            due(2, () -> x.cut(0, 3));
            due(" 1 2 3", () -> terms(x, 0));
            refused(x, INDEX, () -> x.term(0, 3));
        });
    }

    private void swapping() {
        test("promise 21: the slots may be the same", () -> {
            ConvolutionBench x = new ConvolutionBench();
            x.setSequence(3, 4, 1, 1);
            due(4, () -> x.swap(3, 3));
            due(" 1 2 3 4", () -> terms(x, 3));
            due(0, () -> x.swap(0, 0));
        });
        test("promise 21: the length of the first slot afterwards is told", () -> {
            ConvolutionBench x = new ConvolutionBench();
            x.setSequence(0, 32, 1, 0);
            due(0, () -> x.swap(0, 3));
            due(0, () -> x.length(0));
            due(32, () -> x.length(3));
            due(32, () -> x.swap(0, 3));
        });
    }
}
