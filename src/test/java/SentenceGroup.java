import java.util.NoSuchElementException;

/** What the tests of the document's sentences share: the exceptions' names, piers to begin with, short checks. */
abstract class SentenceGroup {
    static final Class<IndexOutOfBoundsException> NO_INDEX = IndexOutOfBoundsException.class;
    static final Class<IllegalArgumentException> BAD_ARGUMENT = IllegalArgumentException.class;
    static final Class<IllegalStateException> BAD_STATE = IllegalStateException.class;
    static final Class<UnsupportedOperationException> UNSUPPORTED = UnsupportedOperationException.class;
    static final Class<NoSuchElementException> NO_ELEMENT = NoSuchElementException.class;
    static final Class<ArithmeticException> NO_DIVISOR = ArithmeticException.class;

    static final String THROWS_NO_INDEX = "Throws `IndexOutOfBoundsException`";
    static final String THROWS_BAD_ARGUMENT = "Throws `IllegalArgumentException`";
    static final String THROWS_BAD_STATE = "Throws `IllegalStateException`";
    static final String THROWS_UNSUPPORTED = "Throws `UnsupportedOperationException`";
    static final String THROWS_NO_ELEMENT = "Throws `NoSuchElementException`";
    static final String THROWS_NO_DIVISOR = "Throws `ArithmeticException`";

    static final int LEAST = Integer.MIN_VALUE;
    static final int GREATEST = Integer.MAX_VALUE;

    /** A call with one number. */
    interface NumberCall {
        void with(int number);
    }

    /** A call with a pier and one number, as the number of a lot. */
    interface PierCall {
        void on(Fishpier pier, int number);
    }

    private final Sentences sentences;
    private final Checks checks;

    SentenceGroup(Sentences sentences, Checks checks) {
        this.sentences = sentences;
        this.checks = checks;
    }

    /** Runs all tests of the group. */
    abstract void tell();

    // Checks

    void says(String section, String begin, Checks.Call test) {
        sentences.says(section, begin, test);
    }

    void is(String what, long due, long got) {
        checks.is(what, due, got);
    }

    void is(String what, char due, char got) {
        checks.is(what, due, got);
    }

    void is(String what, boolean due, boolean got) {
        checks.is(what, due, got);
    }

    void is(String what, float due, float got) {
        checks.is(what, due, got);
    }

    void is(String what, double due, double got) {
        checks.is(what, due, got);
    }

    void is(String what, String due, String got) {
        checks.is(what, due, got);
    }

    void keeps(String what, Fishpier pier, Checks.Call call) {
        checks.keeps(what, pier, call);
    }

    /** The call throws this and changes nothing. */
    void refuses(String what, Fishpier pier, Class<? extends RuntimeException> due, Checks.Call call) {
        checks.failsAndKeeps(what, pier, due, call);
    }

    /** The call throws this for each of the numbers and changes nothing. */
    void refusesEach(String what, Fishpier pier, Class<? extends RuntimeException> due, int[] wrong, NumberCall call) {
        for (int number : wrong) {
            refuses(what + " " + number, pier, due, () -> call.with(number));
        }
    }

    static int[] numbers(int... numbers) {
        return numbers;
    }

    // Piers to begin with

    /** A pier with this many boats, each with the quota 9999 for each species. */
    static Fishpier pierWithBoats(int boats) {
        Fishpier pier = new Fishpier();
        for (int boat = 0; boat < boats; boat++) {
            pier.addBoat(9999, 9999, 9999, 9999);
        }
        return pier;
    }

    /** A pier with a boat and boxed lots of species 0, size 0 and these weights. */
    static Fishpier pierWithLots(int... weights) {
        Fishpier pier = pierWithBoats(1);
        for (int weight : weights) {
            pier.land(0, 0, 0, weight, true);
        }
        return pier;
    }

    /** A pier with as many lots of 10 kilograms as there may be. */
    static Fishpier pierWithAllLots() {
        Fishpier pier = pierWithBoats(1);
        for (int lot = 0; lot < 20; lot++) {
            pier.land(0, 0, 0, 10, true);
        }
        return pier;
    }

    /** The same, each lot sold to the one buyer at 50 a kilogram. */
    static Fishpier pierWithSoldLots(int... weights) {
        Fishpier pier = pierWithLots(weights);
        addBuyer(pier, 1000000, 50);
        for (int lot = 0; lot < weights.length; lot++) {
            pier.sell(lot);
        }
        return pier;
    }

    /** A pier with boxed lots of 10 kilograms: 0 is for sale, 1 sold, 2 loaded, 3 delivered and 4 spoiled. */
    static Fishpier pierWithLotsInAllStates() {
        Fishpier pier = pierWithLots(10, 10, 10, 10, 10);
        addBuyer(pier, 1000000, 50);
        pier.ice(0, 999);
        pier.addTruck(60, 100, false);
        pier.addTruck(1000, 200, false);
        for (int lot = 1; lot < 4; lot++) {
            pier.sell(lot);
        }
        pier.load(3, 0);
        pier.load(2, 1);
        tick(pier, 60);
        return pier;
    }

    /** Adds a buyer with this limit for species 0. */
    static int addBuyer(Fishpier pier, int budget, int limit) {
        int buyer = pier.addBuyer(budget);
        pier.setLimit(buyer, 0, limit);
        return buyer;
    }

    static void tick(Fishpier pier, int times) {
        for (int i = 0; i < times; i++) {
            pier.tick();
        }
    }
}
