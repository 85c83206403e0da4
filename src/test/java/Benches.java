/** The benches that several test classes start from. */
final class Benches {
    private Benches() {
    }

    /** Primes 17, 13, 97; slots of 4, 2, 0 and 1 terms; a twisted product of 4 coefficients by the last prime. */
    static ConvolutionBench multiplied() {
        ConvolutionBench x = new ConvolutionBench();
        Suite.load(x, "prime 17;prime 13;prime 97;sequence 0 1 2 3 4;sequence 1 5 6;sequence 3 -7;");
        x.multiply(2, 0, 1, 4, 4);
        return x;
    }

    /** The same with a change undone, the position of an error and 40 bytes of a text that is not loaded. */
    static ConvolutionBench rich() {
        ConvolutionBench x = multiplied();
        x.append(1, 9);
        x.undo();
        Suite.load(x, "prime 8;");
        Suite.feed(x, "prime 19;sequence 2 3 4 5;");
        return x;
    }

    /** The rich bench without its product. */
    static ConvolutionBench withoutProduct() {
        ConvolutionBench x = rich();
        x.undo();
        return x;
    }

    /** The rich bench without primes. */
    static ConvolutionBench withoutPrimes() {
        ConvolutionBench x = rich();
        while (x.primes() > 0) {
            x.removePrime(0);
        }
        return x;
    }

    static ConvolutionBench sixPrimes() {
        return Suite.withPrimes(3, 5, 7, 11, 13, 17);
    }

    /** Slot 0 has 32 terms. */
    static ConvolutionBench fullSlot() {
        ConvolutionBench x = rich();
        x.setSequence(0, 32, 1, 1);
        return x;
    }

    /** 600 bytes are fed. */
    static ConvolutionBench fullText() {
        ConvolutionBench x = Suite.withPrimes(17);
        Suite.feed(x, padded("prime 19;", 600));
        return x;
    }

    /** The product of the first four primes is greater than multiply takes; one term is in slot 0. */
    static ConvolutionBench greatPrimes() {
        ConvolutionBench x = Suite.withPrimes(99991, 99989, 99971, 100003, 97);
        x.append(0, 1);
        return x;
    }

    static String padded(String text, int length) {
        StringBuilder longer = new StringBuilder(text);
        while (longer.length() < length) {
            longer.append(' ');
        }
        return longer.toString();
    }
}
