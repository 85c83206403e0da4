/** Section 6: a call that throws changes nothing, and of several exceptions the one named first is thrown. */
final class RefusalTest extends Suite {
    @Override
    void run() {
        texts();
        primes();
        numbers();
        sequences();
        transforms();
        convolutions();
        plans();
        multiplying();
        products();
        questionsChangeNothing();
    }

    /** One test: the call throws, and then nothing tells the bench from one that was not asked. */
    private void refuses(String name, Class<?> want, Maker maker, CallOn call) {
        test(name, () -> {
            ConvolutionBench x = maker.make();
            due(want, () -> call.answer(x));
            due(lookThrough(maker.make()), () -> lookThrough(x));
        });
    }

    private void refuses(String name, Class<?> want, CallOn call) {
        refuses(name, want, Benches::rich, call);
    }

    private void texts() {
        refuses("promise 2: feed beyond 600 bytes", STATE, Benches::fullText, x -> x.feed(0, 0, 0, 0, 0));
        refuses("promise 3: load of less than 0 bytes", ARGUMENT, x -> x.load(-1));
        refuses("promise 3: load of one byte more than was fed", ARGUMENT, x -> x.load(41));
        refuses("promise 3: load of a byte of an empty buffer", ARGUMENT, ConvolutionBench::new, x -> x.load(1));
        refuses("promise 41: undo without a change", STATE, ConvolutionBench::new, x -> x.undo());
    }

    private void primes() {
        refuses("promise 6: addPrime of no prime", ARGUMENT, x -> x.addPrime(15));
        refuses("promise 6: addPrime below the range", ARGUMENT, x -> x.addPrime(2));
        refuses("promise 6: addPrime above the range", ARGUMENT, x -> x.addPrime(100019));
        refuses("promise 6: addPrime of a prime that is there", ARGUMENT, x -> x.addPrime(97));
        refuses("promise 6: addPrime of a seventh prime", STATE, Benches::sixPrimes, x -> x.addPrime(19));
        refuses("promise 6: no prime goes before six primes", ARGUMENT, Benches::sixPrimes, x -> x.addPrime(15));
        refuses("promise 6: the range goes before six primes", ARGUMENT, Benches::sixPrimes, x -> x.addPrime(100019));
        refuses("promise 6: being there goes before six primes", ARGUMENT, Benches::sixPrimes, x -> x.addPrime(17));
        refuses("promise 7: removePrime behind the last", INDEX, x -> x.removePrime(3));
        refuses("promise 7: removePrime below 0", INDEX, x -> x.removePrime(-1));
        refuses("promise 7: removePrime without primes", INDEX, ConvolutionBench::new, x -> x.removePrime(0));
        refuses("promise 8: prime behind the last", INDEX, x -> x.prime(3, 0));
        refuses("promise 8: prime with what 5", ARGUMENT, x -> x.prime(0, 5));
        refuses("promise 8: the prime goes before what", INDEX, x -> x.prime(3, 5));
    }

    private void numbers() {
        refuses("promise 9: root by no prime", INDEX, x -> x.root(3, 1));
        refuses("promise 9: root of order 0", ARGUMENT, x -> x.root(0, 0));
        refuses("promise 9: root of an order that does not divide", ELEMENT, x -> x.root(0, 3));
        refuses("promise 9: the prime goes before the range", INDEX, x -> x.root(3, 0));
        refuses("promise 9: the range goes before the divisor", ARGUMENT, x -> x.root(0, 17));
        refuses("promise 10: power by no prime", INDEX, x -> x.power(3, 2, 1));
        refuses("promise 10: power with a negative exponent", ARGUMENT, x -> x.power(0, 2, -1));
        refuses("promise 10: the prime goes before the exponent", INDEX, x -> x.power(3, 2, -1));
        refuses("promise 11: inverse by no prime", INDEX, x -> x.inverse(3, 1));
        refuses("promise 11: inverse of a multiple", ELEMENT, x -> x.inverse(0, 34));
        refuses("promise 11: the prime goes before the multiple", INDEX, x -> x.inverse(3, 0));
        refuses("promise 12: order by no prime", INDEX, x -> x.order(3, 1));
        refuses("promise 12: order of a multiple", ELEMENT, x -> x.order(0, -17));
        refuses("promise 12: the prime goes before the multiple", INDEX, x -> x.order(-1, 0));
        refuses("promise 13: logarithm by no prime", INDEX, x -> x.logarithm(3, 1));
        refuses("promise 13: logarithm of a multiple", ELEMENT, x -> x.logarithm(0, 0));
        refuses("promise 13: the prime goes before the multiple", INDEX, x -> x.logarithm(3, 0));
        refuses("promise 14: primeFor of 129", ARGUMENT, x -> x.primeFor(129, 2));
        refuses("promise 14: primeFor above 100003", ARGUMENT, x -> x.primeFor(1, 100003));
        refuses("promise 14: primeFor without such a prime", ELEMENT, x -> x.primeFor(128, 100002));
        refuses("promise 14: the range of n goes before no prime", ARGUMENT, x -> x.primeFor(129, 100002));
        refuses("promise 14: the range of above goes before no prime", ARGUMENT, x -> x.primeFor(128, 100003));
        refuses("promise 15: usable of kind 3", ARGUMENT, x -> x.usable(3, 4));
        refuses("promise 15: usable of length 65", ARGUMENT, x -> x.usable(0, 65));
    }

    private void sequences() {
        refuses("promise 16: length of no slot", INDEX, x -> x.length(4));
        refuses("promise 17: term of no slot", INDEX, x -> x.term(4, 0));
        refuses("promise 17: term behind the last", INDEX, x -> x.term(0, 4));
        refuses("promise 18: setSequence of no slot", INDEX, x -> x.setSequence(4, 1, 0, 0));
        refuses("promise 18: setSequence of 33 terms", ARGUMENT, x -> x.setSequence(0, 33, 0, 0));
        refuses("promise 18: setSequence by steps of 1000", ARGUMENT, x -> x.setSequence(0, 1, 0, 1000));
        refuses("promise 18: setSequence with a term of 10000", ARGUMENT, x -> x.setSequence(0, 2, 9999, 1));
        refuses("promise 18: the slot goes before the length", INDEX, x -> x.setSequence(4, 33, 0, 0));
        refuses("promise 19: append to no slot", INDEX, x -> x.append(4, 0));
        refuses("promise 19: append of 10000", ARGUMENT, x -> x.append(0, 10000));
        refuses("promise 19: append of a 33rd term", STATE, Benches::fullSlot, x -> x.append(0, 1));
        refuses("promise 19: the slot goes before the value", INDEX, x -> x.append(4, 10000));
        refuses("promise 19: the value goes before 32 terms", ARGUMENT, Benches::fullSlot, x -> x.append(0, 10000));
        refuses("promise 20: cut of no slot", INDEX, x -> x.cut(4, 0));
        refuses("promise 20: cut to more than there is", ARGUMENT, x -> x.cut(0, 5));
        refuses("promise 20: the slot goes before the length", INDEX, x -> x.cut(4, -1));
        refuses("promise 21: swap with a first slot that is none", INDEX, x -> x.swap(4, 0));
        refuses("promise 21: swap with a second slot that is none", INDEX, x -> x.swap(0, 4));
    }

    private void transforms() {
        refuses("promise 22: transform by no prime", INDEX, x -> x.transform(3, 0, 4, 0));
        refuses("promise 22: transform of no slot", INDEX, x -> x.transform(0, 4, 4, 0));
        refuses("promise 22: transform of length 65", ARGUMENT, x -> x.transform(0, 0, 65, 0));
        refuses("promise 22: transform, component n", ARGUMENT, x -> x.transform(0, 0, 4, 4));
        refuses("promise 22: transform that does not exist", ELEMENT, x -> x.transform(0, 0, 3, 0));
        refuses("promise 22: the prime goes before the length", INDEX, x -> x.transform(3, 0, 65, 0));
        refuses("promise 22: the slot goes before the component", INDEX, x -> x.transform(0, 4, 4, 4));
        refuses("promise 22: the slot goes before no transform", INDEX, x -> x.transform(0, 4, 3, 0));
        refuses("promise 22: the component goes before no transform", ARGUMENT, x -> x.transform(0, 0, 3, 3));
        refuses("promise 23: cost by no prime", INDEX, x -> x.cost(3, 4, 0));
        refuses("promise 23: cost of length 65", ARGUMENT, x -> x.cost(0, 65, 0));
        refuses("promise 23: cost of method 3", ARGUMENT, x -> x.cost(0, 4, 3));
        refuses("promise 23: cost of no transform", ELEMENT, x -> x.cost(0, 3, 0));
        refuses("promise 23: the prime goes before the method", INDEX, x -> x.cost(3, 4, 3));
        refuses("promise 23: the method goes before no transform", ARGUMENT, x -> x.cost(0, 3, 3));
        refuses("promise 24: method by no prime", INDEX, x -> x.method(3, 4));
        refuses("promise 24: method of length 0", ARGUMENT, x -> x.method(0, 0));
        refuses("promise 24: method of no transform", ELEMENT, x -> x.method(0, 3));
        refuses("promise 24: the prime goes before the length", INDEX, x -> x.method(3, 0));
        refuses("promise 24: the length goes before no transform", ARGUMENT, x -> x.method(0, 65));
        refuses("promise 25: chirp by no prime", INDEX, x -> x.chirp(3, 4, 0));
        refuses("promise 25: chirp 2 * n + 1", ARGUMENT, x -> x.chirp(0, 4, 9));
        refuses("promise 25: chirp of no root", ELEMENT, x -> x.chirp(0, 3, 0));
        refuses("promise 25: the prime goes before j", INDEX, x -> x.chirp(3, 4, 9));
        refuses("promise 25: j goes before no root", ARGUMENT, x -> x.chirp(0, 3, 7));
        refuses("promise 26: longest by no prime", INDEX, x -> x.longest(8));
    }

    private void convolutions() {
        refuses("promise 27: size of no slot", INDEX, x -> x.size(0, 4, 0, 0));
        refuses("promise 27: size of an empty sequence", STATE, x -> x.size(0, 0, 2, 0));
        refuses("promise 27: size of kind 3", ARGUMENT, x -> x.size(3, 0, 1, 4));
        refuses("promise 27: size less than a length", ARGUMENT, x -> x.size(1, 0, 1, 3));
        refuses("promise 27: the second slot goes before the first sequence", INDEX, x -> x.size(0, 2, 4, 0));
        refuses("promise 27: the slot goes before the kind", INDEX, x -> x.size(3, 4, 0, 0));
        refuses("promise 27: the empty sequence goes before the kind", STATE, x -> x.size(3, 0, 2, 0));
        refuses("promise 28: bound of no slot", INDEX, x -> x.bound(4, 0));
        refuses("promise 28: bound of an empty sequence", STATE, x -> x.bound(0, 2));
        refuses("promise 28: the second slot goes before the first sequence", INDEX, x -> x.bound(2, 4));
        refuses("promise 29: coefficient of no slot", INDEX, x -> x.coefficient(0, 4, 0, 0, 0));
        refuses("promise 29: coefficient of an empty sequence", STATE, x -> x.coefficient(0, 2, 0, 0, 0));
        refuses("promise 29: coefficient of kind -1", ARGUMENT, x -> x.coefficient(-1, 0, 1, 4, 0));
        refuses("promise 29: coefficient N", ARGUMENT, x -> x.coefficient(1, 0, 1, 4, 4));
        refuses("promise 29: the second slot goes before the first sequence", INDEX, x -> x.coefficient(0, 2, 4, 0, 0));
        refuses("promise 29: the slot goes before the kind", INDEX, x -> x.coefficient(3, 4, 0, 0, 0));
        refuses("promise 29: the empty sequence goes before k", STATE, x -> x.coefficient(0, 2, 0, 0, -1));
        refuses("promise 30: isEnough by no prime", INDEX, x -> x.isEnough(8, 0, 1));
        refuses("promise 30: isEnough of no slot", INDEX, x -> x.isEnough(1, 0, 4));
        refuses("promise 30: isEnough of an empty sequence", STATE, x -> x.isEnough(1, 0, 2));
        refuses("promise 30: the set goes before the empty sequence", INDEX, x -> x.isEnough(8, 0, 2));
        refuses("promise 30: the second slot goes before the first sequence", INDEX, x -> x.isEnough(1, 2, 4));
    }

    private void plans() {
        refuses("promise 31: plan of no slot", INDEX, x -> x.plan(0, 4, 0, 0, 0));
        refuses("promise 31: plan of an empty sequence", STATE, x -> x.plan(0, 0, 2, 0, 0));
        refuses("promise 31: plan of kind 3", ARGUMENT, x -> x.plan(3, 0, 1, 4, 0));
        refuses("promise 31: plan with what 3", ARGUMENT, x -> x.plan(0, 0, 1, 0, 3));
        refuses("promise 31: the second slot goes before the first sequence", INDEX, x -> x.plan(0, 2, 4, 0, 0));
        refuses("promise 31: the slot goes before what", INDEX, x -> x.plan(0, 4, 0, 0, 3));
        refuses("promise 31: the empty sequence goes before what", STATE, x -> x.plan(0, 0, 2, 0, 3));
        refuses("promise 32: transformSteps of no slot", INDEX, x -> x.transformSteps(0, 4, 0, 0));
        refuses("promise 32: transformSteps of an empty sequence", STATE, x -> x.transformSteps(0, 0, 2, 0));
        refuses("promise 32: transformSteps of kind 3", ARGUMENT, x -> x.transformSteps(3, 0, 1, 4));
        refuses("promise 32: transformSteps without a plan", ELEMENT, x -> x.transformSteps(1, 0, 1, 5));
        refuses("promise 32: the second slot goes before the first sequence", INDEX, x -> x.transformSteps(0, 2, 4, 0));
        refuses("promise 32: the slot goes before the kind", INDEX, x -> x.transformSteps(3, 0, 4, 4));
        refuses("promise 32: the empty sequence goes before the kind", STATE, x -> x.transformSteps(3, 2, 0, 4));
        refuses("promise 32: the slot goes before no plan", INDEX, Benches::withoutPrimes,
                x -> x.transformSteps(0, 4, 0, 0));
        refuses("promise 32: the empty sequence goes before no plan", STATE, Benches::withoutPrimes,
                x -> x.transformSteps(0, 2, 0, 0));
        refuses("promise 32: N goes before no plan", ARGUMENT, Benches::withoutPrimes,
                x -> x.transformSteps(1, 0, 1, 3));
    }

    private void multiplying() {
        refuses("promise 33: multiply by no prime", INDEX, x -> x.multiply(0, 0, 1, 6, 12));
        refuses("promise 33: multiply of no slot", INDEX, x -> x.multiply(0, 0, 4, 6, 4));
        refuses("promise 33: multiply of an empty sequence", STATE, x -> x.multiply(0, 0, 2, 6, 4));
        refuses("promise 33: multiply of kind 3", ARGUMENT, x -> x.multiply(3, 0, 1, 6, 4));
        refuses("promise 33: multiply of length 65", ARGUMENT, x -> x.multiply(0, 0, 1, 65, 4));
        refuses("promise 33: multiply of too small a length", ARGUMENT, x -> x.multiply(0, 0, 1, 4, 4));
        refuses("promise 33: multiply by the empty set", ARGUMENT, x -> x.multiply(0, 0, 1, 6, 0));
        refuses("promise 33: multiply by too great a product", ARGUMENT, Benches::greatPrimes,
                x -> x.multiply(0, 0, 0, 1, 15));
        refuses("promise 33: multiply without a transform", ELEMENT, x -> x.multiply(0, 0, 1, 5, 4));
        refuses("promise 33: multiply without a twisted transform", ELEMENT, x -> x.multiply(2, 0, 1, 4, 2));
        refuses("promise 33: the set goes before the empty sequence", INDEX, x -> x.multiply(0, 0, 2, 6, 8));
        refuses("promise 33: the slot goes before the empty sequence", INDEX, x -> x.multiply(0, 2, 4, 6, 4));
        refuses("promise 33: the slot goes before the kind", INDEX, x -> x.multiply(3, 0, 4, 6, 4));
        refuses("promise 33: the set goes before the length", INDEX, x -> x.multiply(0, 0, 1, 65, 8));
        refuses("promise 33: the set goes before no transform", INDEX, x -> x.multiply(0, 0, 1, 5, 8));
        refuses("promise 33: the empty sequence goes before the kind", STATE, x -> x.multiply(3, 0, 2, 6, 4));
        refuses("promise 33: the empty sequence goes before the empty set", STATE, x -> x.multiply(0, 0, 2, 6, 0));
        refuses("promise 33: the empty sequence goes before no transform", STATE, x -> x.multiply(0, 0, 2, 5, 4));
        refuses("promise 33: the length goes before no transform", ARGUMENT, x -> x.multiply(1, 0, 1, 3, 1));
        refuses("promise 33: too great a product goes before no transform", ARGUMENT, Benches::greatPrimes,
                x -> x.multiply(0, 0, 0, 64, 15));
    }

    private void products() {
        Maker without = Benches::withoutProduct;
        refuses("promise 34: product with what 4", ARGUMENT, x -> x.product(4));
        refuses("promise 34: product, there is none", STATE, without, x -> x.product(0));
        refuses("promise 34: no product goes before what", STATE, without, x -> x.product(4));
        refuses("promise 35: value behind the last", INDEX, x -> x.value(4));
        refuses("promise 35: value of no product", STATE, without, x -> x.value(0));
        refuses("promise 35: no product goes before k", STATE, without, x -> x.value(-1));
        refuses("promise 36: digit of no coefficient", INDEX, x -> x.digit(4, 0));
        refuses("promise 36: digit behind the last", INDEX, x -> x.digit(0, 1));
        refuses("promise 36: digit of no product", STATE, without, x -> x.digit(0, 0));
        refuses("promise 36: no product goes before k", STATE, without, x -> x.digit(-1, -1));
        refuses("promise 37: productAt of no product", STATE, without, x -> x.productAt(0));
        refuses("promise 38: residue by no prime", INDEX, x -> x.residue(3, 0));
        refuses("promise 38: residue of no product", STATE, without, x -> x.residue(0, 0));
        refuses("promise 38: residue of no coefficient", ARGUMENT, x -> x.residue(0, 4));
        refuses("promise 38: the prime goes before no product", INDEX, without, x -> x.residue(3, 0));
        refuses("promise 38: the prime goes before k", INDEX, x -> x.residue(3, 4));
        refuses("promise 38: no product goes before k", STATE, without, x -> x.residue(0, -1));
        refuses("promise 39: agreeing of no first slot", INDEX, x -> x.agreeing(-1, 0));
        refuses("promise 39: agreeing of no second slot", INDEX, x -> x.agreeing(0, 4));
        refuses("promise 39: agreeing with no product", STATE, without, x -> x.agreeing(0, 1));
        refuses("promise 39: agreeing of an empty sequence", STATE, x -> x.agreeing(0, 2));
        refuses("promise 39: the first slot goes before no product", INDEX, without, x -> x.agreeing(-1, 0));
        refuses("promise 39: the second slot goes before no product", INDEX, without, x -> x.agreeing(0, 4));
        refuses("promise 39: the second slot goes before the first sequence", INDEX, x -> x.agreeing(2, 4));
        refuses("promise 40: store in no slot", INDEX, x -> x.store(4));
        refuses("promise 40: store of no product", STATE, without, x -> x.store(0));
        refuses("promise 40: the slot goes before no product", INDEX, without, x -> x.store(-1));
        refuses("promise 40: store of a coefficient of 10000", STATE, RefusalTest::greatProduct, x -> x.store(1));
        refuses("promise 40: the slot goes before the coefficient", INDEX, RefusalTest::greatProduct, x -> x.store(4));
        refuses("promise 40: store of 33 coefficients", STATE, RefusalTest::longProduct, x -> x.store(1));
    }

    private static ConvolutionBench greatProduct() {
        ConvolutionBench x = withPrimes(65537);
        x.append(0, 100);
        x.multiply(0, 0, 0, 1, 1);
        return x;
    }

    private static ConvolutionBench longProduct() {
        ConvolutionBench x = withPrimes(65537);
        x.append(0, 1);
        x.setSequence(1, 32, 1, 0);
        x.append(0, 1);
        x.multiply(0, 0, 1, 64, 1);
        return x;
    }

    private void asks(String name, Object want, CallOn call) {
        test(name + " changes nothing", () -> {
            ConvolutionBench x = Benches.rich();
            due(want, () -> call.answer(x));
            due(lookThrough(Benches.rich()), () -> lookThrough(x));
        });
    }

    private void questionsChangeNothing() {
        asks("promise 4: errorPosition", 6, x -> x.errorPosition());
        asks("promise 5: primes", 3, x -> x.primes());
        asks("promise 8: prime", 3, x -> x.prime(0, 1));
        asks("promise 9: root", 13, x -> x.root(0, 4));
        asks("promise 10: power", 8, x -> x.power(1, 2, 3));
        asks("promise 11: inverse", 9, x -> x.inverse(0, 2));
        asks("promise 12: order", 8, x -> x.order(0, 2));
        asks("promise 13: logarithm", 14, x -> x.logarithm(0, 2));
        asks("promise 14: primeFor", 101, x -> x.primeFor(4, 97));
        asks("promise 15: usable", 7, x -> x.usable(0, 4));
        asks("promise 16: length", 4, x -> x.length(0));
        asks("promise 17: term", -7, x -> x.term(3, 0));
        asks("promise 22: transform", 10, x -> x.transform(0, 0, 4, 0));
        asks("promise 23: cost", 16, x -> x.cost(0, 4, 0));
        asks("promise 24: method", 1, x -> x.method(0, 4));
        asks("promise 25: chirp", 13, x -> x.chirp(0, 4, 2));
        asks("promise 26: longest", 4, x -> x.longest(7));
        asks("promise 27: size", 5, x -> x.size(0, 0, 1, 0));
        asks("promise 28: bound", 48, x -> x.bound(0, 1));
        asks("promise 29: coefficient", 29, x -> x.coefficient(1, 0, 1, 4, 0));
        asks("promise 30: isEnough", true, x -> x.isEnough(4, 0, 1));
        asks("promise 31: plan", 8, x -> x.plan(0, 0, 1, 0, 0));
        asks("promise 32: transformSteps", 60, x -> x.transformSteps(0, 0, 1, 0));
        asks("promise 34: product", 4, x -> x.product(0));
        asks("promise 35: value", -19, x -> x.value(0));
        asks("promise 36: digit", 78, x -> x.digit(0, 0));
        asks("promise 37: productAt", 1000003 - 19, x -> x.productAt(0));
        asks("promise 38: residue", 15, x -> x.residue(0, 0));
        asks("promise 39: agreeing", 4, x -> x.agreeing(0, 1));
    }
}
