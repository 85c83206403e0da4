/** Promises 33 to 40: a test for each sentence that names an edge. */
final class ProductEdgesTest extends Suite {
    @Override
    void run() {
        lengths();
        sets();
        greatSets();
        absence();
        descriptions();
        values();
        digits();
        places();
        residues();
        agreeing();
        agreeingSizes();
        storing();
    }

    /** A cyclic product of length 2 with these coefficients; those beyond 9999 are multiples of 100. */
    private static ConvolutionBench withValues(int c0, int c1) {
        ConvolutionBench x = withPrimes(12289, 40961);
        int factor = Math.abs(c0) > 9999 || Math.abs(c1) > 9999 ? 100 : 1;
        set(x, 0, factor, 0);
        set(x, 1, c0 / factor, c1 / factor);
        x.multiply(1, 0, 1, 2, 3);
        return x;
    }

    private void lengths() {
        test("promise 33: for kind 0 a length from N to 64", () -> {
            ConvolutionBench x = withPrimes(11, 257, 131);
            x.setSequence(0, 4, 1, 1);
            x.setSequence(1, 2, 5, 1);
            due(5, () -> x.multiply(0, 0, 1, 5, 1));
            due(5, () -> x.product(3));
            due(5, () -> x.multiply(0, 0, 1, 64, 2));
            due("5 16 27 38 24", () -> values(x));
            due(64, () -> x.product(3));
            refused(x, ARGUMENT, () -> x.multiply(0, 0, 1, 4, 2), () -> x.multiply(0, 0, 1, 65, 4),
                    () -> x.multiply(0, 0, 1, 0, 2), () -> x.multiply(0, 0, 1, -5, 2),
                    () -> x.multiply(0, 0, 1, LEAST, 2),
                    () -> x.multiply(0, 0, 1, MOST, 2));
        });
        test("promise 33: the greatest linear product", () -> {
            ConvolutionBench x = withPrimes(75781, 84437, 12097, 257);
            x.setSequence(0, 32, 1, 0);
            due(63, () -> x.multiply(0, 0, 0, 63, 4));
            due(32, () -> x.value(31));
            due(1, () -> x.value(62));
            due(63, () -> x.multiply(0, 0, 0, 64, 12));
            refused(x, ARGUMENT, () -> x.multiply(0, 0, 0, 62, 4));
        });
        test("promise 33: for the kinds 1 and 2 a length from that of both sequences to 64", () -> {
            ConvolutionBench x = withPrimes(257, 131);
            x.setSequence(0, 4, 1, 1);
            x.setSequence(1, 2, 5, 1);
            for (int kind = 1; kind <= 2; kind++) {
                int asked = kind;
                due(4, () -> x.multiply(asked, 0, 1, 4, 1));
                due(4, () -> x.multiply(asked, 1, 0, 4, 1));
                due(64, () -> x.multiply(asked, 0, 1, 64, 1));
                due(0, () -> x.value(63));
                refused(x, ARGUMENT, () -> x.multiply(asked, 0, 1, 2, 1), () -> x.multiply(asked, 1, 0, 2, 1),
                        () -> x.multiply(asked, 0, 1, 3, 1), () -> x.multiply(asked, 0, 1, 65, 2),
                        () -> x.multiply(asked, 0, 1, 128, 1), () -> x.multiply(asked, 0, 1, 0, 1));
            }
        });
        test("promise 33: length 1, by each kind", () -> {
            ConvolutionBench x = withPrimes(97);
            set(x, 0, -5);
            for (int kind = 0; kind <= 2; kind++) {
                int asked = kind;
                due(1, () -> x.multiply(asked, 0, 0, 1, 1));
                due(25, () -> x.value(0));
            }
        });
        test("promise 33: kind is from 0 to 2", () -> {
            ConvolutionBench x = withPrimes(97);
            x.append(0, 1);
            refused(x, ARGUMENT, () -> x.multiply(-1, 0, 0, 1, 1), () -> x.multiply(3, 0, 0, 1, 1));
        });
    }

    private void sets() {
        test("promise 33: a set has at least one prime", () -> {
            ConvolutionBench x = withPrimes(97);
            x.append(0, 1);
            refused(x, ARGUMENT, () -> x.multiply(0, 0, 0, 1, 0));
            due(1, () -> x.multiply(0, 0, 0, 1, 1));
            refused(new ConvolutionBench(), STATE, () -> new ConvolutionBench().multiply(0, 0, 0, 1, 0));
        });
        test("promise 33: a set has no bit behind the last prime", () -> {
            ConvolutionBench x = Benches.sixPrimes();
            x.append(0, 1);
            due(1, () -> x.multiply(0, 0, 0, 1, 63));
            due(1, () -> x.multiply(0, 0, 0, 1, 32));
            refused(x, INDEX, () -> x.multiply(0, 0, 0, 1, 64), () -> x.multiply(0, 0, 0, 1, 65),
                    () -> x.multiply(0, 0, 0, 1, -1), () -> x.multiply(0, 0, 0, 1, LEAST));
        });
        test("promise 33: length divides p - 1 for each prime of the set", () -> {
            ConvolutionBench x = withPrimes(17, 13, 41);
            x.setSequence(0, 4, 1, 0);
            due(8, () -> x.multiply(1, 0, 0, 8, 5));
            refused(x, ELEMENT, () -> x.multiply(1, 0, 0, 8, 7), () -> x.multiply(1, 0, 0, 8, 3),
                    () -> x.multiply(1, 0, 0, 8, 6), () -> x.multiply(1, 0, 0, 8, 2), () -> x.multiply(0, 0, 0, 7, 1));
        });
        test("promise 33: for kind 2 the double of length divides p - 1 for each prime of the set", () -> {
            ConvolutionBench x = withPrimes(17, 13, 97);
            x.setSequence(0, 4, 1, 0);
            due(8, () -> x.multiply(2, 0, 0, 8, 5));
            due(8, () -> x.product(0));
            refused(x, ELEMENT, () -> x.multiply(2, 0, 0, 16, 5), () -> x.multiply(2, 0, 0, 16, 1),
                    () -> x.multiply(2, 0, 0, 4, 2), () -> x.multiply(2, 0, 0, 4, 7));
            due(16, () -> x.multiply(2, 0, 0, 16, 4));
        });
    }

    private void greatSets() {
        test("promise 33: a product of primes of 3,999,999,999,999,999,523 is taken", () -> {
            ConvolutionBench x = withPrimes(11, 113, 271, 4567, 39761, 65393);
            set(x, 0, -9999);
            set(x, 1, 9999);
            due(1, () -> x.multiply(0, 0, 1, 1, 63));
            due(-99980001L, () -> x.value(0));
            due(1, () -> x.multiply(0, 1, 1, 2, 63));
            due(99980001L, () -> x.value(0));
        });
        test("promise 33: a product of primes of 4,000,000,000,000,003,737 is not", () -> {
            ConvolutionBench x = withPrimes(3, 239, 1129, 4201, 18679, 62971);
            x.append(0, 1);
            refused(x, ARGUMENT, () -> x.multiply(0, 0, 0, 1, 63));
            due(1, () -> x.multiply(0, 0, 0, 1, 62));
        });
        test("promise 33: products of six great primes are not taken, although they would run over", () -> {
            ConvolutionBench x = withPrimes(99929, 99961, 99971, 99989, 99991, 100003);
            x.append(0, 1);
            refused(x, ARGUMENT, () -> x.multiply(0, 0, 0, 1, 63), () -> x.multiply(0, 0, 0, 1, 31),
                    () -> x.multiply(0, 0, 0, 1, 15), () -> x.multiply(0, 0, 0, 1, 60));
            due(1, () -> x.multiply(0, 0, 0, 1, 56));
        });
    }

    private void absence() {
        test("section 5: there is no product at first", () -> noProduct(withPrimes(97)));
        test("section 5: there is no product after load", () -> {
            ConvolutionBench x = Benches.multiplied();
            load(x, "prime 97;sequence 0 1;");
            noProduct(x);
        });
        test("section 5: there is no product after load of the empty text", () -> {
            ConvolutionBench x = Benches.multiplied();
            x.load(0);
            x.addPrime(97);
            noProduct(x);
        });
        test("section 5: the product stays after a text with an error", () -> {
            ConvolutionBench x = Benches.multiplied();
            load(x, "prime 97;sequence 0 1;prime 97;");
            due("-19 16 27 38", () -> values(x));
            due("78 16 27 38", () -> digits(x, 0) + " " + digits(x, 1) + " " + digits(x, 2) + " " + digits(x, 3));
        });
        test("section 5: the product stays when primes and sequences change", () -> {
            ConvolutionBench x = Benches.multiplied();
            x.removePrime(2);
            x.removePrime(0);
            x.addPrime(5);
            x.cut(0, 0);
            x.swap(1, 3);
            due("-19 16 27 38", () -> values(x));
            due(4, () -> x.product(1));
            due(78, () -> x.digit(0, 0));
        });
    }

    private void noProduct(ConvolutionBench x) {
        if (x.length(0) == 0) {
            x.append(0, 1);
        }
        refused(x, STATE, () -> x.product(0), () -> x.product(3), () -> x.value(0), () -> x.digit(0, 0),
                () -> x.productAt(1), () -> x.residue(0, 0), () -> x.agreeing(0, 0), () -> x.store(0));
    }

    private void descriptions() {
        test("promise 34: what is from 0 to 3", () -> {
            ConvolutionBench x = Benches.multiplied();
            due(4, () -> x.product(0));
            due(4, () -> x.product(1));
            due(2, () -> x.product(2));
            due(4, () -> x.product(3));
            refused(x, ARGUMENT, () -> x.product(-1), () -> x.product(4), () -> x.product(LEAST),
                    () -> x.product(MOST));
        });
        test("promise 34: N and the transform length of a linear product", () -> {
            ConvolutionBench x = Benches.multiplied();
            x.multiply(0, 0, 1, 48, 4);
            due(5, () -> x.product(0));
            due(48, () -> x.product(3));
            due(0, () -> x.product(2));
        });
    }

    private void values() {
        test("promise 35: k from 0 to N - 1", () -> {
            ConvolutionBench x = Benches.multiplied();
            due(-19, () -> x.value(0));
            due(38, () -> x.value(3));
            refused(x, INDEX, () -> x.value(-1), () -> x.value(4), () -> x.value(LEAST), () -> x.value(MOST));
        });
        test("promise 35: no coefficient of a longer product before is left", () -> {
            ConvolutionBench x = withPrimes(97);
            x.setSequence(0, 8, 1, 1);
            x.multiply(1, 0, 0, 32, 1);
            x.cut(0, 1);
            x.multiply(0, 0, 0, 1, 1);
            due("1", () -> values(x));
            refused(x, INDEX, () -> x.value(1), () -> x.digit(1, 0));
            refused(x, ARGUMENT, () -> x.residue(0, 1));
        });
        test("promise 35: the least absolute value by one prime", () -> {
            ConvolutionBench x = withPrimes(17);
            set(x, 0, 1);
            set(x, 1, 0, 8, 9, 16, 17, 18, -8, -9);
            x.multiply(0, 0, 1, 8, 1);
            due("0 8 -8 -1 0 1 -8 8", () -> values(x));
        });
        test("promise 35: the least absolute value by two primes", () -> {
            ConvolutionBench x = withPrimes(3, 5);
            set(x, 0, 1, 0);
            set(x, 1, 7, 8);
            x.multiply(1, 0, 1, 2, 3);
            due("7 -7", () -> values(x));
            set(x, 1, -7, -8);
            x.multiply(1, 0, 1, 2, 3);
            due("-7 7", () -> values(x));
        });
        test("promise 35: the greatest coefficient of all, wrapped and not", () -> {
            ConvolutionBench x = withPrimes(12289, 40961, 65537);
            x.setSequence(0, 32, 9999, 0);
            x.multiply(0, 0, 0, 64, 7);
            due(3199360032L, () -> x.value(31));
            x.multiply(2, 0, 0, 32, 7);
            due(-30 * 99980001L, () -> x.value(0));
            due(3199360032L, () -> x.value(31));
        });
    }

    private void digits() {
        test("promise 36: k and digit from 0", () -> {
            ConvolutionBench x = Benches.multiplied();
            x.multiply(1, 0, 1, 4, 7);
            due("12,1,0", () -> digits(x, 0));
            due("4,2,0", () -> digits(x, 3));
            refused(x, INDEX, () -> x.digit(-1, 0), () -> x.digit(4, 0), () -> x.digit(0, -1), () -> x.digit(0, 3),
                    () -> x.digit(3, 3), () -> x.digit(MOST, MOST), () -> x.digit(LEAST, LEAST));
        });
        test("section 3: each digit is from 0 to its p - 1", () -> {
            ConvolutionBench x = withPrimes(17, 13, 97);
            set(x, 0, 1);
            set(x, 1, 0, -1, 1, 16, 17, -17);
            x.multiply(0, 0, 1, 6, 4);
            x.setSequence(1, 3, 0, -1);
            x.multiply(1, 0, 1, 4, 7);
            due("0,0,0", () -> digits(x, 0));
            due("16,12,96", () -> digits(x, 1));
            due("15,12,96", () -> digits(x, 2));
            due("0,0,0", () -> digits(x, 3));
        });
        test("section 3: digits by the primes of the set alone, by ascending numbers", () -> {
            ConvolutionBench x = withPrimes(17, 13, 97);
            set(x, 0, 1);
            set(x, 1, 100);
            x.multiply(0, 0, 1, 1, 5);
            due("15,5", () -> digits(x, 0));
            refused(x, INDEX, () -> x.digit(0, 2));
            x.multiply(0, 0, 1, 1, 6);
            due("9,7", () -> digits(x, 0));
        });
        test("promise 36: digits by the primes of that time", () -> {
            ConvolutionBench x = withPrimes(17, 13, 97);
            set(x, 0, 1);
            set(x, 1, 100);
            x.multiply(0, 0, 1, 1, 5);
            x.removePrime(0);
            x.removePrime(1);
            x.addPrime(3);
            due(15, () -> x.digit(0, 0));
            due(5, () -> x.digit(0, 1));
        });
    }

    private void places() {
        test("promise 37: an answer from 0 to 1000002", () -> {
            ConvolutionBench x = withValues(-1, 1);
            due(1000002, () -> x.productAt(0));
            due(0, () -> x.productAt(1));
            due(1000001, () -> x.productAt(-1));
            due(0, () -> x.productAt(1000004));
        });
        test("promise 37: x is any number", () -> {
            ConvolutionBench x = withValues(5, 1);
            due(5, () -> x.productAt(1000003));
            due(5, () -> x.productAt(-1000003));
            due(Math.floorMod(LEAST, 1000003) + 5, () -> x.productAt(LEAST));
            due(Math.floorMod(MOST, 1000003) + 5, () -> x.productAt(MOST));
        });
        test("promise 37: values beyond the modulus", () -> {
            ConvolutionBench x = withPrimes(12289, 40961);
            set(x, 0, 9999);
            set(x, 1, -9999);
            x.multiply(0, 0, 0, 1, 3);
            due(99980001 % 1000003, () -> x.productAt(7));
            x.multiply(0, 0, 1, 1, 3);
            due(1000003 - 99980001 % 1000003, () -> x.productAt(7));
        });
        test("promise 37: a longer product before does not count", () -> {
            ConvolutionBench x = withPrimes(97);
            x.setSequence(0, 8, 1, 1);
            x.multiply(1, 0, 0, 32, 1);
            x.cut(0, 1);
            x.multiply(0, 0, 0, 1, 1);
            due(1, () -> x.productAt(1));
            due(1, () -> x.productAt(5));
        });
        test("promise 37: all 64 coefficients count", () -> {
            ConvolutionBench x = withPrimes(257);
            x.setSequence(0, 32, 1, 0);
            set(x, 1, 1);
            x.multiply(1, 0, 0, 64, 1);
            due(1024, () -> x.productAt(1));
            due(0, () -> x.productAt(-1));
        });
    }

    private void residues() {
        test("promise 38: k from 0 to N - 1", () -> {
            ConvolutionBench x = Benches.multiplied();
            due(78, () -> x.residue(2, 0));
            due(38, () -> x.residue(2, 3));
            refused(x, ARGUMENT, () -> x.residue(2, -1), () -> x.residue(2, 4), () -> x.residue(2, LEAST),
                    () -> x.residue(2, MOST));
        });
        test("promise 38: by a prime that was not used, also one that came later", () -> {
            ConvolutionBench x = Benches.multiplied();
            due(15, () -> x.residue(0, 0));
            due(4, () -> x.residue(0, 3));
            x.addPrime(3);
            due(2, () -> x.residue(3, 0));
            due(0, () -> x.residue(3, 2));
            refused(x, INDEX, () -> x.residue(4, 0), () -> x.residue(-1, 0));
        });
        test("promise 38: residues from 0 to p - 1", () -> {
            ConvolutionBench x = withValues(-1, 0);
            due(12288, () -> x.residue(0, 0));
            due(40960, () -> x.residue(1, 0));
            due(0, () -> x.residue(0, 1));
        });
    }

    private void agreeing() {
        test("promise 39: none, some and all agree", () -> {
            ConvolutionBench x = Benches.multiplied();
            due(4, () -> x.agreeing(0, 1));
            due(4, () -> x.agreeing(1, 0));
            set(x, 3, 1, 2, 3, 5);
            due(2, () -> x.agreeing(3, 1));
            set(x, 3, 1);
            due(0, () -> x.agreeing(3, 1));
        });
        test("promise 39: the first and the last coefficient count", () -> {
            ConvolutionBench x = withPrimes(257);
            set(x, 0, 1, 2, 3);
            set(x, 1, 1);
            x.multiply(0, 0, 1, 4, 1);
            due(3, () -> x.agreeing(0, 1));
            set(x, 2, 1, 5, 5);
            due(1, () -> x.agreeing(2, 1));
            set(x, 2, 5, 5, 3);
            due(1, () -> x.agreeing(2, 1));
        });
        test("promise 39: by primes that are not enough less agree", () -> {
            ConvolutionBench x = withPrimes(17);
            x.setSequence(0, 4, 1, 1);
            x.setSequence(1, 2, 5, 1);
            x.multiply(1, 0, 1, 4, 1);
            due(0, () -> x.agreeing(0, 1));
        });
    }

    private void agreeingSizes() {
        test("promise 39: NONE if a linear convolution has more or less coefficients", () -> {
            ConvolutionBench x = withPrimes(257);
            x.setSequence(0, 4, 1, 1);
            x.setSequence(1, 2, 5, 1);
            x.multiply(0, 0, 1, 8, 1);
            due(5, () -> x.agreeing(0, 1));
            x.append(1, 0);
            due(NONE, () -> x.agreeing(0, 1));
            x.cut(1, 1);
            due(NONE, () -> x.agreeing(0, 1));
            x.append(1, 0);
            due(1, () -> x.agreeing(0, 1));
        });
        test("promise 39: for kinds 1 and 2 NONE if N is less than a length", () -> {
            ConvolutionBench x = withPrimes(257);
            x.setSequence(0, 4, 1, 1);
            x.setSequence(1, 2, 5, 1);
            for (int kind = 1; kind <= 2; kind++) {
                x.multiply(kind, 0, 1, 4, 1);
                due(4, () -> x.agreeing(0, 1));
                x.append(0, 0);
                due(NONE, () -> x.agreeing(0, 1));
                due(NONE, () -> x.agreeing(1, 0));
                due(0, () -> x.agreeing(1, 1));
                x.cut(0, 4);
            }
        });
    }

    private void storing() {
        test("promise 40: 32 coefficients are stored, 33 are not", () -> {
            ConvolutionBench x = withPrimes(257, 67);
            x.setSequence(0, 32, 1, 0);
            set(x, 1, 1);
            due(32, () -> x.multiply(0, 0, 1, 64, 1));
            due(32, () -> x.store(3));
            due(32, () -> x.length(3));
            x.append(1, 0);
            due(33, () -> x.multiply(0, 0, 1, 64, 1));
            refused(x, STATE, () -> x.store(3));
            x.cut(0, 1);
            due(33, () -> x.multiply(1, 0, 1, 33, 2));
            refused(x, STATE, () -> x.store(3));
        });
        test("promise 40: coefficients from -9999 to 9999", () -> {
            ConvolutionBench x = withValues(-9999, 9999);
            due(2, () -> x.store(3));
            due(" -9999 9999", () -> terms(x, 3));
        });
        test("promise 40: one coefficient beyond, at either end", () -> {
            for (int[] pair : new int[][] {{10000, 0}, {0, 10000}, {-10000, 0}, {0, -10000}}) {
                ConvolutionBench x = withValues(pair[0], pair[1]);
                due(pair[0], () -> x.value(0));
                due(pair[1], () -> x.value(1));
                refused(x, STATE, () -> x.store(3));
            }
        });
        test("promise 40: the product stays, the whole sequence is replaced", () -> {
            ConvolutionBench x = withValues(4, -5);
            x.setSequence(2, 32, 1, 1);
            due(2, () -> x.store(2));
            due(" 4 -5", () -> terms(x, 2));
            due("4 -5", () -> values(x));
            due(2, () -> x.store(0));
            due("4 -5", () -> values(x));
        });
        test("promise 40: a slot from 0 to 3", () -> {
            ConvolutionBench x = withValues(4, -5);
            due(2, () -> x.store(0));
            due(2, () -> x.store(3));
            refused(x, INDEX, () -> x.store(-1), () -> x.store(4), () -> x.store(LEAST), () -> x.store(MOST));
        });
    }
}
