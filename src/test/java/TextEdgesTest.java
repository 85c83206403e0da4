/** The texts of section 5 and promises 2 to 4: a test for each sentence that names an edge. */
final class TextEdgesTest extends Texts {
    @Override
    void run() {
        feeding();
        lengths();
        cutTexts();
        replacing();
        positions();
        words();
        spaces();
        repetitions();
        syntaxErrors();
        endErrors();
        primeErrors();
        slotErrors();
        termErrors();
        tooManyPrimes();
        tooManyTerms();
        firstErrors();
    }

    /** The text has this error, and nothing but the position of the error and the buffer changes. */
    private void wrong(String text, int code, int position) {
        ConvolutionBench x = Benches.multiplied();
        due(code, () -> load(x, text));
        due(position, x::errorPosition);
        ConvolutionBench y = Benches.multiplied();
        load(y, position < 600 ? Benches.padded("", position) + "x" : Benches.padded("prime", 600));
        due(lookThrough(y), () -> lookThrough(x));
    }

    private static ConvolutionBench read(String text) {
        ConvolutionBench x = new ConvolutionBench();
        load(x, text);
        return x;
    }

    private void feeding() {
        test("promise 2: the lengths from 20 to 600", () -> {
            ConvolutionBench x = new ConvolutionBench();
            for (int length = 20; length <= 600; length += 20) {
                due(length, () -> x.feed(0, 0, 0, 0, 0));
            }
            refused(x, STATE, () -> x.feed(0, 0, 0, 0, 0), () -> x.feed(0, 0, 0, 0, 0));
        });
        test("promise 2: the bytes of all arguments in order, the most significant first", () -> {
            ConvolutionBench x = new ConvolutionBench();
            // "sequ ence 2 -9 999; ;;;;"
            x.feed(0x73657175, 0x656E6365, 0x2032202D, 0x39393939, 0x3B20203B);
            due(0, () -> x.load(17));
            due(-9999, () -> x.term(2, 0));
        });
        test("promise 2: bytes of 128 and more", () -> {
            ConvolutionBench x = new ConvolutionBench();
            x.feed(-1, Integer.MIN_VALUE, 0x80FF80FF, 0, 0);
            due(SYNTAX, () -> x.load(20));
            due(0, x::errorPosition);
        });
        test("promise 2: behind a load there is room for 600 bytes again", () -> {
            ConvolutionBench x = Benches.fullText();
            due(1, () -> x.load(600));
            due(20, () -> x.feed(0, 0, 0, 0, 0));
            ConvolutionBench y = Benches.fullText();
            y.load(0);
            due(20, () -> y.feed(0, 0, 0, 0, 0));
        });
    }

    private void lengths() {
        test("promise 3: a length from 0 to that of the buffer", () -> {
            for (int length : new int[] {0, 20}) {
                ConvolutionBench x = new ConvolutionBench();
                x.feed(0x20202020, 0x20202020, 0x20202020, 0x20202020, 0x20202020);
                refused(x, ARGUMENT, () -> x.load(-1), () -> x.load(21), () -> x.load(600),
                        () -> x.load(Integer.MIN_VALUE), () -> x.load(Integer.MAX_VALUE));
                due(0, () -> x.load(length));
            }
        });
        test("promise 3: an empty buffer has the length 0 alone", () -> {
            ConvolutionBench x = new ConvolutionBench();
            refused(x, ARGUMENT, () -> x.load(1), () -> x.load(-1));
            due(0, () -> x.load(0));
        });
        test("promise 3: all 600 bytes are read", () -> {
            String text = Benches.padded("prime 19;", 591) + "prime 23;";
            ConvolutionBench x = read(text);
            due(600, () -> text.length());
            due(2, x::primes);
            due(23, () -> x.prime(1, 0));
        });
        test("promise 3: an error at the last of 600 bytes, and at the end behind them", () -> {
            wrong(Benches.padded("prime 19;", 599) + "x", SYNTAX, 599);
            wrong(Benches.padded("prime 19", 600), SYNTAX, 600);
            wrong(Benches.padded("prime 19;", 592) + "sequence", SYNTAX, 600);
            wrong(Benches.padded("prime 19;", 595) + "prime", SYNTAX, 600);
            wrong(Benches.padded("prime 19;", 592) + "prime 23", SYNTAX, 600);
        });
        test("promise 3: the number of primes from 0 to 6", () -> {
            due(0, () -> load(new ConvolutionBench(), "sequence 0;"));
            due(1, () -> load(new ConvolutionBench(), "prime 3;"));
            due(6, () -> load(new ConvolutionBench(), SIX));
        });
    }

    private void cut(String text, int length, int code, int position) {
        ConvolutionBench x = new ConvolutionBench();
        feed(x, text);
        due(code, () -> x.load(length));
        due(position, x::errorPosition);
    }

    private void cutTexts() {
        test("promise 3: the bytes behind the length do not count", () -> {
            cut("prime 17;", 8, SYNTAX, 8);
            cut("prime 179;", 8, SYNTAX, 8);
            cut("prime 17;", 7, VALUE, 6);
            cut("prime 17 ;", 8, SYNTAX, 8);
            cut("prime 17 ;", 9, SYNTAX, 9);
            cut("prime 3;primes", 13, SYNTAX, 13);
            cut("prime 3;prime", 12, SYNTAX, 8);
            cut("prime 17", 5, SYNTAX, 5);
            cut("sequence 1", 9, SYNTAX, 9);
            cut("sequence 1 -5;", 12, SYNTAX, 12);
            cut("sequence 1 5-;", 12, SYNTAX, 12);
            cut("prime 3;x", 8, 1, NONE);
            cut("x", 0, 0, NONE);
        });
        test("promise 3: the bytes of an earlier text do not count", () -> {
            ConvolutionBench x = new ConvolutionBench();
            load(x, "prime 17;prime 19;prime 23;prime 29;");
            due(0, () -> x.load(0));
            feed(x, "prime 31");
            due(SYNTAX, () -> x.load(8));
            due(8, x::errorPosition);
        });
        test("promise 3: the buffer is empty afterwards, with and without an error", () -> {
            for (String text : new String[] {"prime 17;", "prime 18;"}) {
                ConvolutionBench x = new ConvolutionBench();
                load(x, text);
                refused(x, ARGUMENT, () -> x.load(1));
                due(20, () -> x.feed(0, 0, 0, 0, 0));
            }
        });
    }

    private void replacing() {
        test("section 5: there are no other primes than those of the text", () -> {
            ConvolutionBench x = withPrimes(17, 13, 97);
            due(1, () -> load(x, "prime 13;"));
            due(13, () -> x.prime(0, 0));
            due(0, () -> load(x, "sequence 0 1;"));
            refused(x, INDEX, () -> x.prime(0, 0));
        });
        test("section 5: slots that are not mentioned are empty", () -> {
            ConvolutionBench x = Benches.multiplied();
            due(0, () -> load(x, "sequence 1 8;"));
            due(" 8", () -> terms(x, 1));
            due(0, () -> x.length(0) + x.length(2) + x.length(3));
        });
        test("section 5: slots that only an earlier text mentioned are empty", () -> {
            for (String earlier : new String[] {"sequence 3 1 2;prime 5;", "sequence 3 1 2;prime 5;x"}) {
                ConvolutionBench x = read(earlier);
                due(0, () -> load(x, "sequence 1 8;"));
                due(0, () -> x.length(3));
                due(1, () -> load(x, "prime 5;"));
                due(0, () -> x.length(1));
            }
        });
        test("section 5: a later sequence of a slot replaces an earlier one, an empty one as well", () -> {
            ConvolutionBench x = read("sequence 2 1 2 3;sequence 0 4 5;sequence 2 9;sequence 0;");
            due(" 9", () -> terms(x, 2));
            due(0, () -> x.length(0));
        });
        test("promise 3: in case of an error the present bench stays, and its changes can be undone", () -> {
            ConvolutionBench x = Benches.multiplied();
            due(SYNTAX, () -> load(x, "prime 5;sequence 0 9 9;sequence 3;x"));
            due(17, () -> x.prime(0, 0));
            due(3, x::primes);
            due(" 1 2 3 4", () -> terms(x, 0));
            due(" -7", () -> terms(x, 3));
            due("-19 16 27 38", () -> values(x));
            due(1, x::undo);
            due(0, x::undo);
        });
    }

    private void positions() {
        test("promise 4: NONE before the first load", () -> {
            ConvolutionBench x = withPrimes(17);
            x.feed(0, 0, 0, 0, 0);
            due(NONE, x::errorPosition);
        });
        test("promise 4: the latest load counts", () -> {
            ConvolutionBench x = read("prime 17;x");
            due(9, x::errorPosition);
            load(x, "x");
            due(0, x::errorPosition);
            load(x, "prime 17;");
            due(NONE, x::errorPosition);
        });
        test("promise 4: a call of load that was refused is none", () -> {
            ConvolutionBench x = read("prime 17;x");
            refused(x, ARGUMENT, () -> x.load(1), () -> x.load(-1));
            due(9, x::errorPosition);
        });
    }

    private void words() {
        test("section 5: a word is the longest sequence of the letters a to z", () -> {
            wrong("primeprime 3;", SYNTAX, 0);
            wrong("primea 3;", SYNTAX, 0);
            wrong("primez 3;", SYNTAX, 0);
            wrong("sequencea 3;", SYNTAX, 0);
            wrong("sequencez;", SYNTAX, 0);
            wrong("sequenc 3;", SYNTAX, 0);
            wrong("prim", SYNTAX, 0);
            wrong("prime 3;sequences", SYNTAX, 8);
        });
        test("section 5: other signs end a word", () -> {
            wrong("primeA3;", SYNTAX, 5);
            wrong("primeZ3;", SYNTAX, 5);
            wrong("prime`3;", SYNTAX, 5);
            wrong("prime{3;", SYNTAX, 5);
            wrong("sequence-3;", SYNTAX, 8);
            due(3, () -> read("prime3;").prime(0, 0));
            due(1, () -> read("sequence3 5;").length(3));
        });
        test("section 5: capital letters make no word", () -> {
            wrong("Prime 3;", SYNTAX, 0);
            wrong("PRIME 3;", SYNTAX, 0);
            wrong("primE 3;", SYNTAX, 0);
        });
        test("section 5: a number is the longest sequence of digits", () -> {
            wrong("prime 35;", VALUE, 6);
            wrong("prime 3 5;", SYNTAX, 8);
            due(" 12 3", () -> terms(read("sequence 0 12 3;"), 0));
            due(" 123", () -> terms(read("sequence 0 123;"), 0));
            due(" 1 -23", () -> terms(read("sequence 0 1-23;"), 0));
            wrong("sequence 12 3;", VALUE, 9);
        });
        test("section 5: the signs beside the digits belong to no number", () -> {
            wrong("prime 17/;", SYNTAX, 8);
            wrong("prime 17:;", SYNTAX, 8);
            wrong("prime /17;", SYNTAX, 6);
            wrong("prime :17;", SYNTAX, 6);
            wrong("sequence 0 /1;", SYNTAX, 11);
            wrong("sequence 0 :1;", SYNTAX, 11);
        });
        test("section 5: zeros in front of a number", () -> {
            due(17, () -> read("prime 00000000000000000000017;").prime(0, 0));
            due(" 5 0", () -> terms(read("sequence 0003 00000000000000005 000;"), 3));
        });
    }

    private void spaces() {
        test("section 5: spaces in front of every token and at the end", () -> {
            ConvolutionBench x = read("  prime  17  ;  sequence  2  1  -  2  ;  ");
            due(NONE, x::errorPosition);
            due(17, () -> x.prime(0, 0));
            due(" 1 -2", () -> terms(x, 2));
        });
        test("section 5: no spaces at all", () -> {
            ConvolutionBench x = read("prime17;sequence2-1-2;");
            due(NONE, x::errorPosition);
            due(17, () -> x.prime(0, 0));
            due(" -1 -2", () -> terms(x, 2));
        });
        test("section 5: no spaces inside a token", () -> {
            wrong("pri me 17;", SYNTAX, 0);
            wrong("prime 1 7;", VALUE, 6);
            wrong("prime 11 7;", SYNTAX, 9);
        });
        test("section 5: a space is byte 32 alone", () -> {
            for (int sign : new int[] {0, 9, 10, 13, 31, 33, 127, 160, 255}) {
                wrong("prime" + (char) sign + "17;", SYNTAX, 5);
                wrong("prime 17;" + (char) sign, SYNTAX, 9);
                wrong((char) sign + "prime 17;", SYNTAX, 0);
            }
        });
    }

    private void repetitions() {
        test("section 5: no statement at all", () -> {
            ConvolutionBench x = Benches.multiplied();
            due(0, () -> x.load(0));
            due(0, x::primes);
            due(0, () -> x.length(0));
            due(0, () -> load(x, " "));
            due(NONE, x::errorPosition);
        });
        test("section 5: sequences of 0, 1 and 32 terms", () -> {
            due(0, () -> read("sequence 1;").length(1));
            due(NONE, () -> read("sequence 1;").errorPosition());
            due(1, () -> read("sequence 1 1;").length(1));
            due(32, () -> read(ones(32) + ";").length(1));
        });
        test("section 5: as many statements as the text holds", () -> {
            StringBuilder text = new StringBuilder();
            for (int i = 0; i < 60; i++) {
                text.append("sequence").append(i % 4).append(';');
            }
            ConvolutionBench x = Benches.multiplied();
            due(0, () -> load(x, text.toString()));
            due(NONE, x::errorPosition);
        });
        test("section 5: a minus sign may be missing, but not come twice", () -> {
            due(" 2 -2", () -> terms(read("sequence 0 2 -2;"), 0));
            wrong("sequence 0 --2;", SYNTAX, 12);
            wrong("sequence 0 - -2;", SYNTAX, 13);
        });
    }

    private void syntaxErrors() {
        test("section 5: where a statement must begin", () -> {
            for (String token : new String[] {";", "7", "-", "x", "@", "\"prime\"", "{", "|"}) {
                wrong(token, SYNTAX, 0);
                wrong("prime 17;" + token, SYNTAX, 9);
                wrong("  " + token + " 17;", SYNTAX, 2);
            }
        });
        test("section 5: where the number of a prime must stand", () -> {
            for (String token : new String[] {";", "-17;", "prime 17;", "x", "+17;", "@"}) {
                wrong("prime " + token, SYNTAX, 6);
            }
        });
        test("section 5: where a slot must stand", () -> {
            for (String token : new String[] {";", "-1;", "sequence 1;", "x", "+1;", "@"}) {
                wrong("sequence " + token, SYNTAX, 9);
            }
        });
        test("section 5: behind a prime comes a semicolon", () -> {
            for (String token : new String[] {"17;", "-;", "prime 17;", "x", "@", ",;"}) {
                wrong("prime 17 " + token, SYNTAX, 9);
            }
        });
        test("section 5: behind the terms comes a semicolon", () -> {
            for (String token : new String[] {"prime 17;", "sequence 1;", "x", "@", ",;", "+1;"}) {
                wrong("sequence 1 5 " + token, SYNTAX, 13);
                wrong("sequence 1   " + token, SYNTAX, 13);
            }
        });
        test("section 5: behind a minus sign comes a number", () -> {
            for (String token : new String[] {";", "-1;", "x", "prime 17;", "@"}) {
                wrong("sequence 1 - " + token, SYNTAX, 13);
            }
        });
    }

    private void endErrors() {
        test("section 5: an unexpected end is at the length of the text, behind all spaces", () -> {
            for (String text : new String[] {"prime", "prime 17", "sequence", "sequence 1", "sequence 1 5",
                "sequence 1 -", "prime 5;prime 7"}) {
                wrong(text, SYNTAX, text.length());
                wrong(text + "   ", SYNTAX, text.length() + 3);
            }
        });
    }

    private void primeErrors() {
        test("section 5: a prime from 3 to 100003, at its first digit", () -> {
            due(3, () -> read("prime 3;").prime(0, 0));
            due(100003, () -> read("prime 100003;").prime(0, 0));
            wrong("prime 2;", VALUE, 6);
            wrong("prime 100004;", VALUE, 6);
            wrong("prime 100019;", VALUE, 6);
            wrong("prime   0;", VALUE, 8);
            wrong("prime1;", VALUE, 5);
        });
        test("section 5: numbers that do not fit into an int or a long", () -> {
            // The first two are 17 more than 2^32 and 2^64.
            wrong("prime 4294967313;", VALUE, 6);
            wrong("prime 18446744073709551633;", VALUE, 6);
            wrong("prime 2147483647;", VALUE, 6);
            wrong("sequence 4294967297;", VALUE, 9);
            wrong("sequence 0 4294967297;", VALUE, 11);
            wrong("sequence 0 -18446744073709551617;", VALUE, 12);
            wrong(Benches.padded("prime 1", 8).replace("1 ", "1".repeat(500)) + ";", VALUE, 6);
        });
        test("section 5: a number that is no prime", () -> {
            for (int n : new int[] {4, 9, 15, 99221, 97969, 100001, 100002}) {
                wrong("prime " + n + ";", VALUE, 6);
            }
        });
        test("section 5: a prime that is there already, in the text", () -> {
            wrong("prime 7;prime 7;", VALUE, 14);
            wrong("prime 7;prime 5;prime 007;", VALUE, 22);
            wrong("prime 7;prime 5;prime 5;", VALUE, 22);
        });
        test("section 5: a prime that is in the present bench alone", () -> {
            ConvolutionBench x = withPrimes(17);
            due(1, () -> load(x, "prime 17;"));
        });
    }

    private void slotErrors() {
        test("section 5: a slot from 0 to 3, at its first digit", () -> {
            for (int slot = 0; slot < 4; slot++) {
                int at = slot;
                due(1, () -> read("sequence " + at + " 5;").length(at));
            }
            wrong("sequence 4;", VALUE, 9);
            wrong("sequence 4 5;", VALUE, 9);
            wrong("sequence  10;", VALUE, 10);
        });
    }

    private void termErrors() {
        test("section 5: a term from 0 to 9999 without its sign, at its first digit", () -> {
            due(" 9999 -9999 0 0", () -> terms(read("sequence 0 9999 -9999 0 -0;"), 0));
            wrong("sequence 0 10000;", VALUE, 11);
            wrong("sequence 0 -10000;", VALUE, 12);
            wrong("sequence 0 -  10000;", VALUE, 14);
            wrong("sequence 0 1 99999 1;", VALUE, 13);
        });
    }

    private void tooManyPrimes() {
        test("section 5: six primes can be, the word of a seventh is at its first byte", () -> {
            due(6, () -> load(new ConvolutionBench(), SIX));
            wrong(SIX + "prime 19;", MANY, SIX.length());
            wrong(SIX + "   prime 19;", MANY, SIX.length() + 3);
            wrong(SIX + "sequence 0 1;prime 19;", MANY, SIX.length() + 13);
        });
        test("section 5: the word of a seventh prime goes before its number", () -> {
            wrong(SIX + "prime 17;", MANY, SIX.length());
            wrong(SIX + "prime 18;", MANY, SIX.length());
        });
        test("section 5: six primes and six more in the next text", () -> {
            ConvolutionBench x = read(SIX);
            due(6, () -> load(x, SIX));
        });
    }

    private void tooManyTerms() {
        test("section 5: the 33rd term is at its first digit", () -> {
            due(32, () -> read(ones(32) + ";").length(1));
            wrong(ones(33) + ";", MANY, 75);
            wrong(ones(32) + "   9999;", MANY, 77);
            wrong(ones(40), MANY, 75);
        });
        test("section 5: the 33rd term is at its minus sign, if it has one", () -> {
            wrong(ones(32) + " -1;", MANY, 75);
            wrong(ones(32) + "-  1;", MANY, 74);
        });
        test("section 5: the 32nd term with a sign", () -> due(-5, () -> read(ones(31) + " - 5;").term(1, 31)));
        test("section 5: 32 terms of each slot, and of a slot once more", () -> {
            ConvolutionBench x = read(ones(32) + ";" + ones(32).replace("e 1", "e 0") + ";" + ones(32) + ";");
            due(32, () -> x.length(0));
            due(32, () -> x.length(1));
        });
    }

    private void firstErrors() {
        test("section 5: at the same position the syntax goes first", () -> {
            wrong(SIX + "primes 19;", SYNTAX, SIX.length());
            wrong(SIX + "Prime 19;", SYNTAX, SIX.length());
        });
        test("section 5: at the same position the value goes before too many", () -> {
            wrong(ones(32) + " 10000;", VALUE, 75);
            wrong(ones(32) + " 99999999999999999999;", VALUE, 75);
        });
        test("section 5: the first position goes first, whatever the code", () -> {
            wrong(ones(32) + " -10000;", MANY, 75);
            wrong("prime 4 x;", VALUE, 6);
            wrong("sequence 4 10000", VALUE, 9);
            wrong("prime 17;;prime 4;", SYNTAX, 9);
            wrong("sequence 0 10000 " + ones(33) + ";", VALUE, 11);
        });
    }
}
