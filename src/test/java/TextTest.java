/** Promises 2 to 4: the texts. */
final class TextTest extends Texts {
    @Override
    void run() {
        feeding();
        loading();
        syntaxErrors();
        valueErrors();
        tooMany();
        positions();
    }

    private void feeding() {
        test("promise 2: feed puts the most significant byte first", () -> {
            ConvolutionBench x = new ConvolutionBench();
            due(20, () -> x.feed(0x7072696D, 0x65203137, 0x3B736571, 0x75656E63, 0x6520333B));
            due(1, () -> x.load(20));
            due(17, () -> x.prime(0, 0));
            due(NONE, x::errorPosition);
        });
        test("promise 2: feed takes 600 bytes and no more", () -> {
            ConvolutionBench x = new ConvolutionBench();
            for (int i = 1; i <= 30; i++) {
                int length = 20 * i;
                due(length, () -> x.feed(0x20202020, 0x20202020, 0x20202020, 0x20202020, 0x20202020));
            }
            refused(x, STATE, () -> x.feed(0, 0, 0, 0, 0));
            due(0, () -> x.load(600));
            due(20, () -> x.feed(-1, -1, -1, -1, -1));
        });
        test("promise 2: feed is no change", () -> {
            ConvolutionBench x = withPrimes(17);
            x.feed(0, 0, 0, 0, 0);
            due(0, x::undo);
            due(40, () -> x.feed(0, 0, 0, 0, 0));
        });
    }

    private void loading() {
        test("promise 3: load replaces the bench", () -> {
            ConvolutionBench x = withPrimes(17);
            x.append(3, 1);
            x.append(0, 1);
            x.multiply(0, 0, 0, 1, 1);
            due(2, () -> load(x, " prime 13 ; prime5;sequence 0 1 -2 3;sequence1-7-  08; "));
            due(13, () -> x.prime(0, 0));
            due(2, () -> x.prime(0, 1));
            due(5, () -> x.prime(1, 0));
            due(true, () -> terms(x, 0).equals(" 1 -2 3"));
            due(true, () -> terms(x, 1).equals(" -7 -8"));
            due(0, () -> x.length(3));
            refused(x, STATE, () -> x.product(0));
            due(NONE, x::errorPosition);
        });
        test("promise 3: a later sequence replaces an earlier one", () -> {
            ConvolutionBench x = new ConvolutionBench();
            due(0, () -> load(x, "sequence 2 1 2 3;sequence 2 9;sequence 1 4;sequence 1;"));
            due(true, () -> terms(x, 2).equals(" 9"));
            due(0, () -> x.length(1));
        });
        test("promise 3: the empty text and a text of spaces", () -> {
            ConvolutionBench x = withPrimes(17);
            due(0, () -> x.load(0));
            due(0, x::primes);
            x.addPrime(19);
            due(0, () -> load(x, "     "));
            due(0, x::primes);
            due(3, x::undo);
        });
        test("promise 3: load reads the first bytes alone and empties the buffer", () -> {
            ConvolutionBench x = new ConvolutionBench();
            feed(x, "prime 17;prime 19;");
            due(1, () -> x.load(9));
            refused(x, ARGUMENT, () -> x.load(1), () -> x.load(-1));
            feed(x, "prime x;");
            due(SYNTAX, () -> x.load(8));
            refused(x, ARGUMENT, () -> x.load(1));
            due(20, () -> feed(x, "prime 23;"));
            refused(x, ARGUMENT, () -> x.load(21), () -> x.load(-1), () -> x.load(Integer.MAX_VALUE),
                    () -> x.load(Integer.MIN_VALUE));
            due(1, () -> x.load(9));
            due(23, () -> x.prime(0, 0));
        });
        test("promise 3: a text with an error leaves the bench and is no change", () -> {
            ConvolutionBench x = withPrimes(17);
            x.append(0, 4);
            due(VALUE, () -> load(x, "prime 19;sequence 0 1 2;prime 4;"));
            due(1, x::primes);
            due(17, () -> x.prime(0, 0));
            due(true, () -> terms(x, 0).equals(" 4"));
            due(1, x::undo);
        });
        test("promise 3: all of a bench of 600 bytes", () -> {
            ConvolutionBench x = new ConvolutionBench();
            StringBuilder text = new StringBuilder(SIX);
            for (int slot = 0; slot < 2; slot++) {
                text.append("sequence ").append(slot);
                for (int k = 0; k < 32; k++) {
                    text.append(k % 2 == 0 ? " -" : " ").append(9968 + k);
                }
                text.append(';');
            }
            while (text.length() < 600) {
                text.append(' ');
            }
            due(6, () -> load(x, text.toString()));
            due(32, () -> x.length(1));
            due(-9968, () -> x.term(0, 0));
            due(9999, () -> x.term(1, 31));
        });
    }

    private void wrong(String text, int code, int position) {
        ConvolutionBench x = withPrimes(101);
        x.append(2, 5);
        String before = terms(x, 2) + x.prime(0, 0) + x.primes();
        due(code, () -> load(x, text));
        due(position, x::errorPosition);
        due(before, () -> terms(x, 2) + x.prime(0, 0) + x.primes());
    }

    private void syntaxErrors() {
        test("promise 3: a byte or token that is not allowed here", () -> {
            wrong(";", SYNTAX, 0);
            wrong("  7", SYNTAX, 2);
            wrong("primes 7;", SYNTAX, 0);
            wrong("primea 7;", SYNTAX, 0);
            wrong("primez 7;", SYNTAX, 0);
            wrong("prim 7;", SYNTAX, 0);
            wrong("prime" + (char) ('a' - 1) + "7;", SYNTAX, 5);
            wrong("prime" + (char) ('z' + 1) + "7;", SYNTAX, 5);
            wrong("Prime 7;", SYNTAX, 0);
            wrong("pRime 7;", SYNTAX, 0);
            wrong("sequences 1;", SYNTAX, 0);
            wrong("prime ;", SYNTAX, 6);
            wrong("prime -7;", SYNTAX, 6);
            wrong("prime prime 7;", SYNTAX, 6);
            wrong("prime 7 11;", SYNTAX, 8);
            wrong("prime 7x;", SYNTAX, 7);
            wrong("prime 7-;", SYNTAX, 7);
            wrong("prime 7;;", SYNTAX, 8);
            wrong("prime 7\n;", SYNTAX, 7);
            wrong("prime\t7;", SYNTAX, 5);
            wrong("sequence -1;", SYNTAX, 9);
            wrong("sequence;", SYNTAX, 8);
            wrong("sequence 1 --2;", SYNTAX, 12);
            wrong("sequence 1 - ;", SYNTAX, 13);
            wrong("sequence 1 2-;", SYNTAX, 13);
            wrong("sequence 1 2,3;", SYNTAX, 12);
            wrong("sequence 1 2 prime 7;", SYNTAX, 13);
            wrong("sequence 1 2 +3;", SYNTAX, 13);
            wrong("prime 7;" + (char) 255, SYNTAX, 8);
            wrong("prime 7" + (char) 160 + ";", SYNTAX, 7);
            wrong("prime 7;" + (char) 0, SYNTAX, 8);
        });
        test("promise 3: an unexpected end is at the length of the text", () -> {
            wrong("prime", SYNTAX, 5);
            wrong("prime   ", SYNTAX, 8);
            wrong("prime 7", SYNTAX, 7);
            wrong("prime 7  ", SYNTAX, 9);
            wrong("sequence", SYNTAX, 8);
            wrong("sequence 1", SYNTAX, 10);
            wrong("sequence 1 -", SYNTAX, 12);
            wrong("sequence 1 - ", SYNTAX, 13);
            wrong("sequence 1 2 ", SYNTAX, 13);
            wrong("prim", SYNTAX, 0);
        });
    }

    private void valueErrors() {
        test("promise 3: numbers that cannot be", () -> {
            wrong("prime 2;", VALUE, 6);
            wrong("prime 0;", VALUE, 6);
            wrong("prime 9;", VALUE, 6);
            wrong("prime  100019;", VALUE, 7);
            wrong("prime 100004;", VALUE, 6);
            wrong("prime 99999999999999999999999;", VALUE, 6);
            wrong("prime 4294967303;", VALUE, 6);
            wrong("prime 7;prime 07;", VALUE, 14);
            wrong("prime 9 x;", VALUE, 6);
            wrong("prime 9", VALUE, 6);
            wrong("sequence 4;", VALUE, 9);
            wrong("sequence 4294967296;", VALUE, 9);
            wrong("sequence 0 10000;", VALUE, 11);
            wrong("sequence 0 -10000;", VALUE, 12);
            wrong("sequence 0 - 10000;", VALUE, 13);
            wrong("sequence 0 1 4294967297;", VALUE, 13);
        });
        test("promise 3: numbers that can be", () -> {
            ConvolutionBench x = withPrimes(101);
            due(3, () -> load(x, "prime 3;prime 100003;prime 101;sequence 3 9999-9999 -0 00000000000000000005;"));
            due(100003, () -> x.prime(1, 0));
            due(true, () -> terms(x, 3).equals(" 9999 -9999 0 5"));
        });
    }

    private void tooMany() {
        test("promise 3: the seventh prime, at its word", () -> {
            wrong(SIX + "prime 19;", MANY, SIX.length());
            wrong(SIX + "  prime 4;", MANY, SIX.length() + 2);
            wrong(SIX + "prime x;", MANY, SIX.length());
            wrong(SIX + "prime", MANY, SIX.length());
            wrong(SIX + "primes 5;", SYNTAX, SIX.length());
        });
        test("promise 3: the 33rd term, at its minus sign or its first digit", () -> {
            ConvolutionBench x = new ConvolutionBench();
            due(0, () -> load(x, ones(32) + ";"));
            due(32, () -> x.length(1));
            wrong(ones(33) + ";", MANY, 75);
            wrong(ones(34), MANY, 75);
            wrong(ones(32) + " - 1;", MANY, 75);
            wrong(ones(32) + " -10000;", MANY, 75);
            wrong(ones(32) + " 10000;", VALUE, 75);
            wrong(ones(32) + " -;", MANY, 75);
            wrong(ones(32) + " x;", SYNTAX, 75);
            due(0, () -> load(x, ones(32) + ";" + ones(31) + ";"));
            due(31, () -> x.length(1));
        });
    }

    private void positions() {
        test("promise 4: the position of the latest load", () -> {
            ConvolutionBench x = new ConvolutionBench();
            due(NONE, x::errorPosition);
            load(x, "prime 7; prime 8;");
            due(15, x::errorPosition);
            x.addPrime(7);
            x.undo();
            due(15, x::errorPosition);
            refused(x, ARGUMENT, () -> x.load(1));
            due(15, x::errorPosition);
            load(x, "prime 7;");
            due(NONE, x::errorPosition);
            load(x, "x");
            due(0, x::errorPosition);
        });
    }
}
