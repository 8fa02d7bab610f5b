/** Promises 18 to 27, sentence by sentence: buyers, limits, the clock, prices and sales. */
final class ClockSentences extends SentenceGroup {
    ClockSentences(Sentences sentences, Checks checks) {
        super(sentences, checks);
    }

    @Override
    void tell() {
        addBuyer();
        setLimitArguments();
        setLimitRefusals();
        budget();
        setClockArguments();
        setClockRefusals();
        offerArguments();
        offerRefusals();
        price("Promise 23", Fishpier::price, "price");
        price("Promise 24", Fishpier::priceByBuyers, "priceByBuyers");
        sellRefusals("Promise 23", Fishpier::price);
        sellRefusals("Promise 24", Fishpier::priceByBuyers);
        sellRefusals("Promise 25", Fishpier::sell);
        sell();
        buyerOf();
        paidFor();
    }

    /** A call that answers a number for a lot. */
    private interface LotAnswer {
        int of(Fishpier pier, int lot);
    }

    private static Fishpier pierWithBuyers(int buyers) {
        Fishpier pier = pierWithLots(10);
        for (int buyer = 0; buyer < buyers; buyer++) {
            pier.addBuyer(1000 + buyer);
        }
        return pier;
    }

    // Promise 18

    private void addBuyer() {
        says("Promise 18", "`int addBuyer(int budget)", () -> {
            Fishpier pier = pierWithBuyers(1);
            for (int species = 0; species < 4; species++) {
                is("the limit for species " + species, 0, pier.setLimit(0, species, 5));
            }
        });
        says("Promise 18", "- `budget`", () -> {
            Fishpier pier = new Fishpier();
            pier.addBuyer(0);
            pier.addBuyer(1000000);
            is("the least", 0, pier.budget(0));
            is("the greatest", 1000000, pier.budget(1));
        });
        says("Promise 18", "Returns", () -> {
            Fishpier pier = new Fishpier();
            for (int buyer = 0; buyer < 5; buyer++) {
                is("the number", buyer, pier.addBuyer(buyer));
            }
        });
        says("Promise 18", THROWS_BAD_ARGUMENT, () -> {
            Fishpier pier = new Fishpier();
            refusesEach("budget", pier, BAD_ARGUMENT, numbers(LEAST, -1, 1000001, GREATEST), pier::addBuyer);
            is("the next buyer is the first", 0, pier.addBuyer(0));
        });
        says("Promise 18", THROWS_BAD_STATE, () -> {
            Fishpier pier = pierWithBuyers(4);
            is("there is room for a fifth", 4, pier.addBuyer(7));
            refuses("there is none for a sixth", pier, BAD_STATE, () -> pier.addBuyer(8));
            is("the fifth is as it was", 7, pier.budget(4));
        });
    }

    // Promise 19

    private void setLimitArguments() {
        says("Promise 19", "- `buyer`", () -> {
            Fishpier pier = pierWithBuyers(5);
            pier.setLimit(0, 0, 11);
            pier.setLimit(4, 0, 12);
            is("the first", 11, pier.offer(0, 0));
            is("the last", 12, pier.offer(4, 0));
            is("one between", 0, pier.offer(3, 0));
        });
        says("Promise 19", "- `species`", () -> {
            Fishpier pier = pierWithBuyers(1);
            pier.land(0, 3, 0, 1, true);
            pier.land(0, 2, 0, 1, true);
            pier.setLimit(0, 0, 11);
            pier.setLimit(0, 3, 12);
            is("the first", 11, pier.offer(0, 0));
            is("the last", 12, pier.offer(0, 1));
            is("one between", 0, pier.offer(0, 2));
        });
        says("Promise 19", "- `limit`", () -> {
            Fishpier pier = pierWithBuyers(1);
            pier.setLimit(0, 0, 9999);
            is("the greatest", 9999, pier.offer(0, 0));
            pier.setLimit(0, 0, 0);
            is("the least", 0, pier.offer(0, 0));
        });
        says("Promise 19", "Returns", () -> {
            Fishpier pier = pierWithBuyers(1);
            is("at first", 0, pier.setLimit(0, 1, 9999));
            is("the greatest", 9999, pier.setLimit(0, 1, 9999));
            is("the same again", 9999, pier.setLimit(0, 1, 0));
            is("the least", 0, pier.setLimit(0, 1, 4));
            is("another species", 0, pier.setLimit(0, 2, 5));
        });
    }

    private void setLimitRefusals() {
        says("Promise 19", THROWS_NO_INDEX, () -> {
            Fishpier empty = pierWithLots(10);
            refusesEach("of no buyers", empty, NO_INDEX, numbers(-1, 0, 4, 5), buyer -> empty.setLimit(buyer, 0, 1));
            Fishpier pier = pierWithBuyers(2);
            refusesEach("of two buyers", pier, NO_INDEX, numbers(LEAST, -1, 2, 4, 5, GREATEST),
                    buyer -> pier.setLimit(buyer, 0, 1));
            Fishpier full = pierWithBuyers(5);
            refusesEach("of five buyers", full, NO_INDEX, numbers(-1, 5), buyer -> full.setLimit(buyer, 0, 1));
        });
        says("Promise 19", THROWS_BAD_ARGUMENT, () -> {
            Fishpier pier = pierWithBuyers(1);
            refusesEach("species", pier, BAD_ARGUMENT, numbers(LEAST, -1, 4, GREATEST),
                    species -> pier.setLimit(0, species, 1));
        });
        says("Promise 19", THROWS_BAD_ARGUMENT, () -> {
            Fishpier pier = pierWithBuyers(1);
            pier.setLimit(0, 0, 3);
            refusesEach("limit", pier, BAD_ARGUMENT, numbers(LEAST, -1, 10000, GREATEST),
                    limit -> pier.setLimit(0, 0, limit));
            is("the limit is as it was", 3, pier.setLimit(0, 0, 4));
        });
    }

    // Promise 20

    private void budget() {
        says("Promise 20", "- `buyer`", () -> {
            Fishpier pier = pierWithBuyers(5);
            is("the first", 1000, pier.budget(0));
            is("the last", 1004, pier.budget(4));
        });
        says("Promise 20", "Returns", () -> {
            Fishpier pier = pierWithLots(10);
            addBuyer(pier, 500, 50);
            is("all at first", 500, pier.budget(0));
            pier.sell(0);
            is("nothing is left", 0, pier.budget(0));
        });
        says("Promise 20", "Returns", () -> {
            Fishpier pier = pierWithLots(10);
            addBuyer(pier, 500, 50);
            pier.sell(0);
            pier.addTruck(50, 100, false);
            pier.load(0, 0);
            tick(pier, 49);
            is("nothing comes back before the hour", 0, pier.budget(0));
            pier.tick();
            is("what comes back", (int) (500.0f * (70.0f - pier.fresh(0)) / 100.0f), pier.budget(0));
            is("some does", true, pier.budget(0) > 100);
        });
        says("Promise 20", THROWS_NO_INDEX, () -> {
            Fishpier empty = new Fishpier();
            refusesEach("of no buyers", empty, NO_INDEX, numbers(-1, 0, 4, 5), empty::budget);
            Fishpier pier = pierWithBuyers(2);
            refusesEach("of two buyers", pier, NO_INDEX, numbers(LEAST, -1, 2, 4, 5, GREATEST), pier::budget);
            Fishpier full = pierWithBuyers(5);
            refusesEach("of five buyers", full, NO_INDEX, numbers(-1, 5), full::budget);
        });
    }

    // Promise 21

    private void setClockArguments() {
        says("Promise 21", "- `start`", () -> {
            Fishpier pier = pierWithLots(1);
            addBuyer(pier, 1000000, 9999);
            pier.setClock(1, 1, 0);
            is("the least", 1, pier.price(0));
            pier.setClock(9999, 1, 0);
            is("the greatest", 9999, pier.price(0));
        });
        says("Promise 21", "- `step`", () -> {
            Fishpier pier = pierWithLots(1);
            addBuyer(pier, 1000000, 9998);
            pier.setClock(9999, 1, 0);
            is("the least", 9998, pier.price(0));
            pier.setClock(9999, 500, 0);
            is("the greatest", 9499, pier.price(0));
        });
        says("Promise 21", "- `reserve`", () -> {
            Fishpier pier = pierWithLots(1);
            addBuyer(pier, 1000000, 0);
            pier.setClock(20, 1, 0);
            is("the least", 0, pier.price(0));
            pier.setClock(20, 1, 20);
            refuses("the start", pier, UNSUPPORTED, () -> pier.price(0));
            pier.setLimit(0, 0, 20);
            is("an offer of the start", 20, pier.price(0));
        });
        says("Promise 21", "Returns", () -> {
            Fishpier pier = new Fishpier();
            is("at first", 1000, pier.setClock(1, 1, 1));
            is("the least", 1, pier.setClock(9999, 500, 9999));
            is("the greatest", 9999, pier.setClock(9999, 500, 0));
            is("the same again", 9999, pier.setClock(5, 5, 5));
        });
    }

    private void setClockRefusals() {
        says("Promise 21", THROWS_BAD_ARGUMENT, () -> {
            Fishpier pier = new Fishpier();
            refusesEach("start", pier, BAD_ARGUMENT, numbers(LEAST, -1, 0, 10000, GREATEST),
                    start -> pier.setClock(start, 1, 0));
        });
        says("Promise 21", THROWS_BAD_ARGUMENT, () -> {
            Fishpier pier = new Fishpier();
            refusesEach("step", pier, BAD_ARGUMENT, numbers(LEAST, -1, 0, 501, GREATEST),
                    step -> pier.setClock(9999, step, 0));
        });
        says("Promise 21", THROWS_BAD_ARGUMENT, () -> {
            Fishpier pier = new Fishpier();
            pier.setClock(7, 2, 3);
            refusesEach("reserve", pier, BAD_ARGUMENT, numbers(LEAST, -1, 501, 1000, GREATEST),
                    reserve -> pier.setClock(500, 1, reserve));
            refuses("reserve above the least start", pier, BAD_ARGUMENT, () -> pier.setClock(1, 1, 2));
            refuses("reserve above the greatest start", pier, BAD_ARGUMENT, () -> pier.setClock(9999, 1, 10000));
            is("the clock is as it was", 7, pier.setClock(500, 1, 500));
        });
    }

    // Promise 22

    private void offerArguments() {
        says("Promise 22", "- `buyer`", () -> {
            Fishpier pier = pierWithBuyers(5);
            pier.setLimit(0, 0, 11);
            pier.setLimit(4, 0, 12);
            is("the first", 11, pier.offer(0, 0));
            is("the last", 12, pier.offer(4, 0));
        });
        says("Promise 22", "- `lot`", () -> {
            Fishpier pier = pierWithBoats(1);
            addBuyer(pier, 0, 100);
            for (int lot = 0; lot < 20; lot++) {
                pier.land(0, 0, lot == 0 ? 2 : lot == 19 ? 1 : 0, 1, true);
            }
            is("the first", 120, pier.offer(0, 0));
            is("the last", 110, pier.offer(0, 19));
            is("one between", 100, pier.offer(0, 18));
        });
        says("Promise 22", "Returns", () -> {
            Fishpier pier = pierWithLotsInAllStates();
            for (int lot = 0; lot < 5; lot++) {
                int due = (int) (50.0 * (double) pier.fresh(lot) / 100.0);
                is("in state " + pier.stateOf(lot), due, pier.offer(0, lot));
            }
        });
        says("Promise 22", "Returns", () -> {
            Fishpier pier = pierWithBoats(1);
            pier.land(0, 0, 2, 1, true);
            addBuyer(pier, 0, 9999);
            is("the greatest there can be", 11998, pier.offer(0, 0));
            addBuyer(pier, 0, 1);
            is("the least but 0", 1, pier.offer(1, 0));
            tick(pier, 10);
            is("cut to 0", 0, pier.offer(1, 0));
        });
    }

    private void offerRefusals() {
        says("Promise 22", THROWS_NO_INDEX, () -> {
            Fishpier empty = pierWithLots(10);
            refusesEach("of no buyers", empty, NO_INDEX, numbers(-1, 0, 4, 5), buyer -> empty.offer(buyer, 0));
            Fishpier pier = pierWithBuyers(2);
            refusesEach("of two buyers", pier, NO_INDEX, numbers(LEAST, -1, 2, 4, 5, GREATEST),
                    buyer -> pier.offer(buyer, 0));
            Fishpier full = pierWithBuyers(5);
            refusesEach("of five buyers", full, NO_INDEX, numbers(-1, 5), buyer -> full.offer(buyer, 0));
        });
        says("Promise 22", THROWS_NO_ELEMENT, () -> {
            Fishpier empty = new Fishpier();
            empty.addBuyer(0);
            refusesEach("of no lots", empty, NO_ELEMENT, numbers(-1, 0, 19, 20), lot -> empty.offer(0, lot));
            Fishpier pier = pierWithBuyers(1);
            refusesEach("of one lot", pier, NO_ELEMENT, numbers(LEAST, -1, 1, 19, 20, GREATEST),
                    lot -> pier.offer(0, lot));
            Fishpier full = pierWithAllLots();
            full.addBuyer(0);
            refusesEach("of 20 lots", full, NO_ELEMENT, numbers(-1, 20), lot -> full.offer(0, lot));
        });
    }

    // Promises 23 and 24

    private void price(String promise, LotAnswer price, String name) {
        says(promise, "- `lot`", () -> {
            Fishpier pier = pierWithAllLots();
            addBuyer(pier, 1000000, 50);
            is("the first", 50, price.of(pier, 0));
            is("the last", 50, price.of(pier, 19));
        });
        says(promise, "Returns", () -> {
            Fishpier pier = pierWithLots(1);
            addBuyer(pier, 1000000, 9999);
            is("the first price shown", 1000, price.of(pier, 0));
            pier.setLimit(0, 0, 1000);
            is("an offer of just that", 1000, price.of(pier, 0));
            pier.setLimit(0, 0, 999);
            is("one less falls a step", 990, price.of(pier, 0));
            pier.setLimit(0, 0, 9);
            is("the last price shown", 0, price.of(pier, 0));
            keeps(name, pier, () -> price.of(pier, 0));
        });
        says(promise, "Returns", () -> {
            Fishpier pier = pierWithLots(10);
            addBuyer(pier, 500, 990);
            pier.setClock(50, 7, 0);
            is("just what the budget allows", 50, price.of(pier, 0));
            pier.setClock(51, 7, 0);
            is("one more falls a step", 44, price.of(pier, 0));
        });
        says(promise, "Returns", () -> {
            Fishpier pier = pierWithLots(10, 500);
            addBuyer(pier, 4999, 10);
            addBuyer(pier, 99, 9999);
            addBuyer(pier, 100, 9);
            pier.setClock(9999, 1, 0);
            is("one would, one could, one is between", 10, price.of(pier, 0));
            is("of a heavy lot", 9, price.of(pier, 1));
        });
    }

    private void sellRefusals(String promise, PierCall call) {
        says(promise, THROWS_NO_ELEMENT, () -> {
            Fishpier empty = new Fishpier();
            refusesEach("of no lots", empty, NO_ELEMENT, numbers(-1, 0, 19, 20), lot -> call.on(empty, lot));
            Fishpier pier = pierWithBuyers(1);
            refusesEach("of one lot", pier, NO_ELEMENT, numbers(LEAST, -1, 1, 19, 20, GREATEST),
                    lot -> call.on(pier, lot));
            Fishpier full = pierWithAllLots();
            full.addBuyer(0);
            refusesEach("of 20 lots", full, NO_ELEMENT, numbers(-1, 20), lot -> call.on(full, lot));
        });
        says(promise, THROWS_BAD_STATE, () -> {
            Fishpier pier = pierWithLotsInAllStates();
            refuses("it is sold", pier, BAD_STATE, () -> call.on(pier, 1));
            refuses("it is loaded", pier, BAD_STATE, () -> call.on(pier, 2));
            refuses("it is delivered", pier, BAD_STATE, () -> call.on(pier, 3));
            refuses("it is spoiled", pier, BAD_STATE, () -> call.on(pier, 4));
            call.on(pier, 0);
        });
        says(promise, THROWS_UNSUPPORTED, () -> {
            Fishpier pier = pierWithLots(10);
            refuses("there are no buyers", pier, UNSUPPORTED, () -> call.on(pier, 0));
            pier.addBuyer(1000000);
            call.on(pier, 0);
        });
        says(promise, THROWS_UNSUPPORTED, () -> {
            Fishpier pier = pierWithLots(10);
            addBuyer(pier, 1000000, 99);
            pier.setClock(100, 1, 100);
            refuses("the offer is one less than the reserve", pier, UNSUPPORTED, () -> call.on(pier, 0));
            pier.setLimit(0, 0, 100);
            call.on(pier, 0);
        });
        says(promise, THROWS_UNSUPPORTED, () -> {
            Fishpier pier = pierWithLots(10);
            addBuyer(pier, 999, 100);
            pier.setClock(100, 1, 100);
            refuses("the budget is one less than the price", pier, UNSUPPORTED, () -> call.on(pier, 0));
            addBuyer(pier, 1000, 100);
            call.on(pier, 0);
        });
        says(promise, THROWS_UNSUPPORTED, () -> {
            Fishpier pier = pierWithLots(10);
            addBuyer(pier, 1000000, 93);
            pier.setClock(100, 6, 89);
            refuses("the price would be one less than the reserve", pier, UNSUPPORTED, () -> call.on(pier, 0));
            pier.setClock(100, 6, 88);
            call.on(pier, 0);
        });
    }

    // Promise 25

    private void sell() {
        says("Promise 25", "- `lot`", () -> {
            Fishpier pier = pierWithAllLots();
            addBuyer(pier, 1000000, 50);
            pier.sell(0);
            pier.sell(19);
            is("the first", 's', pier.stateOf(0));
            is("the last", 's', pier.stateOf(19));
            is("one between", 'f', pier.stateOf(18));
        });
        says("Promise 25", "Returns", () -> {
            Fishpier pier = pierWithLots(10, 10);
            for (int buyer = 0; buyer < 5; buyer++) {
                addBuyer(pier, 1000000, buyer == 4 ? 51 : 50);
            }
            is("the last buyer", 4, pier.sell(0));
            pier.setLimit(4, 0, 49);
            is("the first buyer", 0, pier.sell(1));
        });
    }

    // Promises 26 and 27

    private void buyerOf() {
        says("Promise 26", "- `lot`", () -> {
            Fishpier pier = pierWithAllLots();
            addBuyer(pier, 1000000, 50);
            pier.sell(0);
            addBuyer(pier, 1000000, 60);
            pier.sell(19);
            is("the first", 0, pier.buyerOf(0));
            is("the last", 1, pier.buyerOf(19));
        });
        says("Promise 26", "Returns", () -> {
            Fishpier pier = pierWithLotsInAllStates();
            for (int lot = 1; lot < 4; lot++) {
                is("in state " + pier.stateOf(lot), 0, pier.buyerOf(lot));
            }
        });
        says("Promise 26", "Returns", () -> {
            Fishpier pier = pierWithLots(10);
            for (int buyer = 0; buyer < 5; buyer++) {
                addBuyer(pier, 1000000, 50 + buyer);
            }
            pier.sell(0);
            is("the last buyer", 4, pier.buyerOf(0));
        });
        says("Promise 26", THROWS_NO_ELEMENT, () -> {
            Fishpier empty = new Fishpier();
            refusesEach("of no lots", empty, NO_ELEMENT, numbers(LEAST, -1, 0, 19, 20, GREATEST), empty::buyerOf);
            Fishpier full = pierWithAllLots();
            refusesEach("of 20 lots", full, NO_ELEMENT, numbers(LEAST, -1, 20, GREATEST), full::buyerOf);
        });
        says("Promise 26", THROWS_NO_ELEMENT, () -> {
            Fishpier pier = pierWithLotsInAllStates();
            refuses("it is for sale", pier, NO_ELEMENT, () -> pier.buyerOf(0));
            refuses("it is spoiled", pier, NO_ELEMENT, () -> pier.buyerOf(4));
        });
    }

    private void paidFor() {
        says("Promise 27", "- `lot`", () -> {
            Fishpier pier = pierWithAllLots();
            addBuyer(pier, 1000000, 50);
            pier.sell(0);
            pier.setLimit(0, 0, 40);
            pier.sell(19);
            is("the first", 500, pier.paidFor(0));
            is("the last", 400, pier.paidFor(19));
        });
        says("Promise 27", "Returns", () -> {
            Fishpier pier = pierWithLotsInAllStates();
            is("0, it is for sale", 0, pier.paidFor(0));
            is("all, it is sold", 500, pier.paidFor(1));
            is("all, it is loaded", 500, pier.paidFor(2));
            int back = (int) (500.0f * (70.0f - pier.fresh(3)) / 100.0f);
            is("less, it was delivered late", 500 - back, pier.paidFor(3));
            is("0, it is spoiled", 0, pier.paidFor(4));
        });
        says("Promise 27", "Returns", () -> {
            Fishpier pier = pierWithLots(10, 1000);
            addBuyer(pier, 1000000, 9);
            pier.sell(0);
            is("0, it was sold for nothing", 0, pier.paidFor(0));
            pier.setLimit(0, 0, 1000);
            pier.sell(1);
            is("the greatest there can be", 1000000, pier.paidFor(1));
        });
        says("Promise 27", THROWS_NO_ELEMENT, () -> {
            Fishpier empty = new Fishpier();
            refusesEach("of no lots", empty, NO_ELEMENT, numbers(LEAST, -1, 0, 19, 20, GREATEST), empty::paidFor);
            Fishpier full = pierWithAllLots();
            refusesEach("of 20 lots", full, NO_ELEMENT, numbers(LEAST, -1, 20, GREATEST), full::paidFor);
        });
    }
}
