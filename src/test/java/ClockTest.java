import java.util.NoSuchElementException;

/** Promises 18 to 27: buyers, limits, the clock, prices and sales. */
public final class ClockTest {
    private static final Class<IndexOutOfBoundsException> NO_INDEX = IndexOutOfBoundsException.class;
    private static final Class<IllegalArgumentException> BAD_ARGUMENT = IllegalArgumentException.class;
    private static final Class<IllegalStateException> BAD_STATE = IllegalStateException.class;
    private static final Class<UnsupportedOperationException> UNSUPPORTED = UnsupportedOperationException.class;
    private static final Class<NoSuchElementException> NO_ELEMENT = NoSuchElementException.class;

    private static final Checks CHECKS = new Checks("ClockTest");

    private ClockTest() {
    }

    public static void main(String[] args) {
        buyersAreNumberedUpToFive();
        limitsAreSet();
        budgetsFallWithSales();
        clockIsSet();
        offersFollowTheTerms();
        pricesFollowTheClock();
        reserveEndsTheFall();
        budgetsBoundThePrice();
        nobodyBuysWithoutBuyers();
        pricesRefuseWrongLots();
        greatestOfferBuys();
        poorBuyersStandAside();
        zeroPriceSells();
        buyersAndPaymentsOfLots();
        CHECKS.end();
    }

    private static Fishpier pierWithLots(int... weights) {
        Fishpier pier = new Fishpier();
        pier.addBoat(9999, 9999, 9999, 9999);
        for (int weight : weights) {
            pier.land(0, 0, 0, weight, true);
        }
        return pier;
    }

    private static void addBuyer(Fishpier pier, int budget, int limit) {
        pier.setLimit(pier.addBuyer(budget), 0, limit);
    }

    private static void checkPrice(String what, Fishpier pier, int lot, int due) {
        CHECKS.is(what + ": price", due, pier.price(lot));
        CHECKS.is(what + ": priceByBuyers", due, pier.priceByBuyers(lot));
    }

    private static void checkNoPrice(String what, Fishpier pier, int lot) {
        CHECKS.fails(what + ": price", UNSUPPORTED, () -> pier.price(lot));
        CHECKS.fails(what + ": priceByBuyers", UNSUPPORTED, () -> pier.priceByBuyers(lot));
        CHECKS.failsAndKeeps(what + ": sell", pier, UNSUPPORTED, () -> pier.sell(lot));
    }

    // Promise 18

    private static void buyersAreNumberedUpToFive() {
        Fishpier pier = pierWithLots(10);
        for (int wrong : new int[] {-1, 1000001, Integer.MIN_VALUE, Integer.MAX_VALUE}) {
            CHECKS.failsAndKeeps("budget " + wrong, pier, BAD_ARGUMENT, () -> pier.addBuyer(wrong));
        }
        int[] budgets = {0, 1000000, 5, 6, 7};
        for (int buyer = 0; buyer < 5; buyer++) {
            CHECKS.is("addBuyer numbers", buyer, pier.addBuyer(budgets[buyer]));
            CHECKS.is("its limits are 0", 0, pier.offer(buyer, 0));
        }
        for (int buyer = 0; buyer < 5; buyer++) {
            CHECKS.is("its budget", budgets[buyer], pier.budget(buyer));
            for (int species = 0; species < 4; species++) {
                CHECKS.is("its limit", 0, pier.setLimit(buyer, species, 1));
            }
        }
        CHECKS.failsAndKeeps("sixth buyer", pier, BAD_STATE, () -> pier.addBuyer(0));
        CHECKS.failsAndKeeps("sixth buyer, wrong budget", pier, BAD_ARGUMENT, () -> pier.addBuyer(-1));
    }

    // Promise 19

    private static void limitsAreSet() {
        Fishpier pier = pierWithLots(10);
        pier.addBuyer(10);
        pier.addBuyer(10);
        CHECKS.is("first limit", 0, pier.setLimit(0, 0, 9999));
        CHECKS.is("second limit", 9999, pier.setLimit(0, 0, 7));
        CHECKS.is("least limit", 7, pier.setLimit(0, 0, 0));
        CHECKS.is("after the least limit", 0, pier.setLimit(0, 0, 5));
        CHECKS.is("other species", 0, pier.setLimit(0, 3, 6));
        CHECKS.is("other buyer", 0, pier.setLimit(1, 0, 8));
        for (int wrong : new int[] {-1, 2, 5, Integer.MIN_VALUE, Integer.MAX_VALUE}) {
            CHECKS.failsAndKeeps("limit of buyer " + wrong, pier, NO_INDEX, () -> pier.setLimit(wrong, 0, 1));
            CHECKS.failsAndKeeps("all wrong " + wrong, pier, NO_INDEX, () -> pier.setLimit(wrong, 4, -1));
        }
        for (int wrong : new int[] {-1, 4, Integer.MIN_VALUE, Integer.MAX_VALUE}) {
            CHECKS.failsAndKeeps("limit of species " + wrong, pier, BAD_ARGUMENT, () -> pier.setLimit(0, wrong, 1));
        }
        for (int wrong : new int[] {-1, 10000, Integer.MIN_VALUE, Integer.MAX_VALUE}) {
            CHECKS.failsAndKeeps("limit " + wrong, pier, BAD_ARGUMENT, () -> pier.setLimit(0, 0, wrong));
        }
        CHECKS.is("the limit after refusals", 5, pier.setLimit(0, 0, 1));
    }

    // Promise 20

    private static void budgetsFallWithSales() {
        Fishpier pier = pierWithLots(10, 20);
        addBuyer(pier, 1000, 30);
        CHECKS.is("budget before", 1000, pier.budget(0));
        pier.sell(0);
        CHECKS.is("budget after one", 700, pier.budget(0));
        pier.sell(1);
        CHECKS.is("budget after two", 100, pier.budget(0));
        for (int wrong : new int[] {-1, 1, 5, Integer.MIN_VALUE, Integer.MAX_VALUE}) {
            CHECKS.fails("budget of buyer " + wrong, NO_INDEX, () -> pier.budget(wrong));
        }
    }

    // Promise 21

    private static void clockIsSet() {
        Fishpier pier = pierWithLots(10);
        addBuyer(pier, 1000000, 9999);
        checkPrice("first clock", pier, 0, 1000);
        CHECKS.is("the first start", 1000, pier.setClock(1, 1, 1));
        CHECKS.is("least clock", 1, pier.setClock(9999, 500, 9999));
        checkPrice("greatest clock", pier, 0, 9999);
        CHECKS.is("greatest clock", 9999, pier.setClock(50, 10, 0));
        for (int wrong : new int[] {-1, 0, 10000, Integer.MIN_VALUE, Integer.MAX_VALUE}) {
            CHECKS.failsAndKeeps("start " + wrong, pier, BAD_ARGUMENT, () -> pier.setClock(wrong, 1, 0));
        }
        for (int wrong : new int[] {-1, 0, 501, Integer.MIN_VALUE, Integer.MAX_VALUE}) {
            CHECKS.failsAndKeeps("step " + wrong, pier, BAD_ARGUMENT, () -> pier.setClock(20, wrong, 0));
        }
        for (int wrong : new int[] {-1, 21, Integer.MIN_VALUE, Integer.MAX_VALUE}) {
            CHECKS.failsAndKeeps("reserve " + wrong, pier, BAD_ARGUMENT, () -> pier.setClock(20, 1, wrong));
        }
        CHECKS.is("the start after refusals", 50, pier.setClock(60, 7, 60));
        checkPrice("reserve at the start", pier, 0, 60);
    }

    // Promise 22

    private static void offersFollowTheTerms() {
        Fishpier pier = new Fishpier();
        pier.addBoat(9999, 9999, 9999, 9999);
        for (int size = 0; size < 3; size++) {
            for (int species = 0; species < 4; species++) {
                pier.land(0, species, size, 10, true);
            }
        }
        int[] limits = {333, 9999, 0, 1};
        pier.addBuyer(0);
        for (int species = 0; species < 4; species++) {
            pier.setLimit(0, species, limits[species]);
        }
        CHECKS.is("size 0", 333, pier.offer(0, 0));
        CHECKS.is("size 1", 366, pier.offer(0, 4));
        CHECKS.is("size 2", 399, pier.offer(0, 8));
        CHECKS.is("greatest", 11998, pier.offer(0, 9));
        CHECKS.is("limit 0", 0, pier.offer(0, 10));
        CHECKS.is("limit 1", 1, pier.offer(0, 11));
        for (int tick = 0; tick < 80; tick++) {
            pier.tick();
            for (int lot = 0; lot < 12; lot++) {
                int limit = limits[lot % 4];
                double due = (double) (limit * (100 + 10 * (lot / 4))) / 100.0 * (double) pier.fresh(lot) / 100.0;
                CHECKS.is("offer for lot " + lot, (int) due, pier.offer(0, lot));
            }
        }
        for (int wrong : new int[] {-1, 1, 5, Integer.MIN_VALUE, Integer.MAX_VALUE}) {
            CHECKS.fails("offer of buyer " + wrong, NO_INDEX, () -> pier.offer(wrong, 0));
            CHECKS.fails("offer of buyer, no lot " + wrong, NO_INDEX, () -> pier.offer(wrong, -1));
        }
        for (int wrong : new int[] {-1, 12, 20, Integer.MIN_VALUE, Integer.MAX_VALUE}) {
            CHECKS.fails("offer for lot " + wrong, NO_ELEMENT, () -> pier.offer(0, wrong));
        }
    }

    // Promises 23 and 24

    private static void pricesFollowTheClock() {
        Fishpier pier = pierWithLots(1);
        addBuyer(pier, 1000000, 300);
        checkPrice("on the step", pier, 0, 300);
        pier.setLimit(0, 0, 299);
        checkPrice("below the step", pier, 0, 290);
        pier.setLimit(0, 0, 301);
        checkPrice("above the step", pier, 0, 300);
        pier.setLimit(0, 0, 1000);
        checkPrice("at the start", pier, 0, 1000);
        pier.setLimit(0, 0, 5000);
        checkPrice("above the start", pier, 0, 1000);
        pier.setLimit(0, 0, 9);
        checkPrice("below the last step", pier, 0, 0);
        addBuyer(pier, 1000000, 555);
        checkPrice("the greater of two", pier, 0, 550);
        pier.setClock(1000, 7, 0);
        checkPrice("steps are counted from the start", pier, 0, 552);
    }

    private static void reserveEndsTheFall() {
        Fishpier pier = pierWithLots(1);
        addBuyer(pier, 1000000, 40);
        pier.setClock(100, 20, 40);
        checkPrice("the reserve itself is shown", pier, 0, 40);
        pier.setClock(100, 20, 41);
        checkNoPrice("the offer is less than the reserve", pier, 0);
        pier.setLimit(0, 0, 59);
        checkNoPrice("a price below the reserve is not shown", pier, 0);
        pier.setLimit(0, 0, 60);
        checkPrice("the last price that is shown", pier, 0, 60);
        pier.setClock(9999, 1, 0);
        checkPrice("a long fall", pier, 0, 60);
        pier.setLimit(0, 0, 0);
        checkPrice("the longest fall", pier, 0, 0);
    }

    private static void budgetsBoundThePrice() {
        Fishpier pier = pierWithLots(10, 2000);
        addBuyer(pier, 500, 300);
        checkPrice("exactly the budget", pier, 0, 50);
        checkPrice("less than a kilogram each", pier, 1, 0);
        addBuyer(pier, 599, 300);
        checkPrice("not quite 60", pier, 0, 50);
        addBuyer(pier, 600, 300);
        checkPrice("exactly 60", pier, 0, 60);
        pier.setClock(9999, 1, 0);
        checkPrice("the greatest products", pier, 1, 0);
        pier.setClock(1000, 10, 61);
        checkNoPrice("the budgets end below the reserve", pier, 0);
    }

    private static void nobodyBuysWithoutBuyers() {
        Fishpier pier = pierWithLots(10);
        checkNoPrice("no buyers", pier, 0);
    }

    private static void pricesRefuseWrongLots() {
        Fishpier pier = pierWithLots(10, 20, 30);
        addBuyer(pier, 100000, 50);
        pier.addTruck(1, 100, false);
        pier.sell(0);
        pier.sell(1);
        pier.load(1, 0);
        for (int wrong : new int[] {-1, 3, 20, Integer.MIN_VALUE, Integer.MAX_VALUE}) {
            CHECKS.fails("price " + wrong, NO_ELEMENT, () -> pier.price(wrong));
            CHECKS.fails("priceByBuyers " + wrong, NO_ELEMENT, () -> pier.priceByBuyers(wrong));
            CHECKS.failsAndKeeps("sell " + wrong, pier, NO_ELEMENT, () -> pier.sell(wrong));
        }
        checkNotForSale("sold", pier, 0);
        checkNotForSale("loaded", pier, 1);
        pier.tick();
        checkNotForSale("delivered", pier, 1);
        for (int tick = 1; tick < 60; tick++) {
            pier.tick();
        }
        checkNotForSale("spoiled", pier, 2);
        pier.setClock(9999, 1, 9999);
        checkNotForSale("sold, and at no price", pier, 0);
    }

    private static void checkNotForSale(String what, Fishpier pier, int lot) {
        CHECKS.fails(what + ": price", BAD_STATE, () -> pier.price(lot));
        CHECKS.fails(what + ": priceByBuyers", BAD_STATE, () -> pier.priceByBuyers(lot));
        CHECKS.failsAndKeeps(what + ": sell", pier, BAD_STATE, () -> pier.sell(lot));
    }

    // Promise 25

    private static void greatestOfferBuys() {
        Fishpier pier = pierWithLots(10, 10, 10);
        addBuyer(pier, 100000, 301);
        addBuyer(pier, 100000, 305);
        addBuyer(pier, 100000, 305);
        addBuyer(pier, 100000, 304);
        checkPrice("one price for all", pier, 0, 300);
        CHECKS.is("the greatest offer, the lowest number", 1, pier.sell(0));
        CHECKS.is("the price is paid, not the offer", 97000, pier.budget(1));
        CHECKS.is("others keep their budgets", 100000, pier.budget(2));
        CHECKS.is("the lot is sold", 's', pier.stateOf(0));
        CHECKS.is("the other lot is not", 'f', pier.stateOf(1));
        pier.setLimit(1, 0, 290);
        CHECKS.is("then the next", 2, pier.sell(1));
        pier.setLimit(2, 0, 0);
        CHECKS.is("then the last number", 3, pier.sell(2));
        CHECKS.is("sound after sales", true, pier.isSound());
    }

    private static void poorBuyersStandAside() {
        Fishpier pier = pierWithLots(10, 10);
        addBuyer(pier, 2999, 900);
        addBuyer(pier, 3000, 300);
        addBuyer(pier, 3000, 310);
        checkPrice("the poor one takes none", pier, 0, 300);
        CHECKS.is("the greatest offer of those who can pay", 2, pier.sell(0));
        CHECKS.is("all of the budget is paid", 0, pier.budget(2));
        CHECKS.is("then the other one", 1, pier.sell(1));
    }

    private static void zeroPriceSells() {
        Fishpier pier = pierWithLots(2000, 5);
        pier.addBuyer(0);
        pier.addBuyer(0);
        checkPrice("for nothing", pier, 0, 0);
        CHECKS.is("the lowest number gets it", 0, pier.sell(0));
        CHECKS.is("nothing is paid", 0, pier.paidFor(0));
        CHECKS.is("it is sold all the same", 's', pier.stateOf(0));
        CHECKS.is("its buyer", 0, pier.buyerOf(0));
        pier.setClock(10, 1, 1);
        checkNoPrice("a reserve of 1", pier, 1);
    }

    // Promises 26 and 27

    private static void buyersAndPaymentsOfLots() {
        Fishpier pier = pierWithLots(10, 20);
        addBuyer(pier, 100000, 50);
        addBuyer(pier, 100000, 60);
        CHECKS.fails("not sold yet", NO_ELEMENT, () -> pier.buyerOf(0));
        CHECKS.is("nothing paid yet", 0, pier.paidFor(0));
        pier.sell(0);
        CHECKS.is("its buyer", 1, pier.buyerOf(0));
        CHECKS.is("what was paid", 600, pier.paidFor(0));
        CHECKS.fails("the other is not sold", NO_ELEMENT, () -> pier.buyerOf(1));
        CHECKS.is("nothing paid for the other", 0, pier.paidFor(1));
        pier.addTruck(30, 100, false);
        pier.load(0, 0);
        CHECKS.is("the buyer of a loaded lot", 1, pier.buyerOf(0));
        for (int tick = 0; tick < 60; tick++) {
            pier.tick();
        }
        CHECKS.is("the buyer of a delivered lot", 1, pier.buyerOf(0));
        float fresh = pier.fresh(0);
        CHECKS.is("what was not given back", 600 - (int) (600.0f * (70.0f - fresh) / 100.0f), pier.paidFor(0));
        CHECKS.fails("the spoiled lot has none", NO_ELEMENT, () -> pier.buyerOf(1));
        CHECKS.is("nothing paid for the spoiled lot", 0, pier.paidFor(1));
        for (int wrong : new int[] {-1, 2, 20, Integer.MIN_VALUE, Integer.MAX_VALUE}) {
            CHECKS.fails("buyerOf " + wrong, NO_ELEMENT, () -> pier.buyerOf(wrong));
            CHECKS.fails("paidFor " + wrong, NO_ELEMENT, () -> pier.paidFor(wrong));
        }
    }
}
