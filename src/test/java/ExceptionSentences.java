/** The last two sentences of the section "Terms": what an exception changes, and which one is thrown of several. */
final class ExceptionSentences extends SentenceGroup {
    private static final String TERMS = "Terms";
    private static final String CHANGES_NOTHING = "A method that throws an exception changes nothing.";
    private static final String FIRST = "If several exceptions apply, the one that is listed first is thrown.";

    ExceptionSentences(Sentences sentences, Checks checks) {
        super(sentences, checks);
    }

    @Override
    void tell() {
        refusalsLeaveNoTrace();
        refusedCallsWorkLater();
        firstOfBoats();
        firstOfDays();
        firstOfLots();
        firstOfBuyers();
        firstOfSales();
        firstOfTrucks();
        firstOfLoading();
        firstOfLoadingLooseLots();
    }

    /** A pier with no room for more of anything, lots in all states and a clock of its own. */
    private static Fishpier fullPier() {
        Fishpier pier = pierWithLotsInAllStates();
        for (int boat = 1; boat < 6; boat++) {
            pier.addBoat(boat, 0, 2000, 9999);
        }
        for (int lot = 5; lot < 20; lot++) {
            pier.land(lot % 6, 3, lot % 3, lot, lot % 2 == 0);
        }
        for (int buyer = 1; buyer < 5; buyer++) {
            addBuyer(pier, 100 * buyer, 10 * buyer);
        }
        pier.addTruck(70, 100, true);
        pier.addTruck(80, 100, false);
        pier.setClock(77, 3, 2);
        pier.endDay();
        return pier;
    }

    private void refusalsLeaveNoTrace() {
        says(TERMS, CHANGES_NOTHING, () -> {
            Fishpier pier = fullPier();
            refuses("addBoat", pier, BAD_ARGUMENT, () -> pier.addBoat(1, 2, 3, 10000));
            refuses("addBoat", pier, BAD_STATE, () -> pier.addBoat(1, 2, 3, 4));
            refuses("land", pier, NO_INDEX, () -> pier.land(6, 3, 0, 5, true));
            refuses("land", pier, BAD_ARGUMENT, () -> pier.land(0, 3, 0, 2001, true));
            refuses("land", pier, BAD_STATE, () -> pier.land(0, 3, 0, 2000, true));
            refuses("moveQuota", pier, NO_INDEX, () -> pier.moveQuota(0, 6, 3, 5));
            refuses("moveQuota", pier, BAD_ARGUMENT, () -> pier.moveQuota(3, 3, 3, 5));
            refuses("moveQuota", pier, BAD_STATE, () -> pier.moveQuota(1, 0, 0, 2));
            refuses("quota", pier, NO_INDEX, () -> pier.quota(6, 0));
            refuses("quota", pier, BAD_ARGUMENT, () -> pier.quota(0, 4));
            refuses("quotaAt", pier, NO_INDEX, () -> pier.quotaAt(6, 0, 0));
            refuses("quotaAt", pier, BAD_ARGUMENT, () -> pier.quotaAt(0, 4, 0));
            refuses("quotaAt", pier, NO_ELEMENT, () -> pier.quotaAt(0, 0, 1));
        });
        says(TERMS, CHANGES_NOTHING, () -> {
            Fishpier pier = fullPier();
            refuses("ice", pier, BAD_ARGUMENT, () -> pier.ice(0, 1000));
            refuses("ice", pier, BAD_STATE, () -> pier.ice(3, 999));
            refuses("addBuyer", pier, BAD_ARGUMENT, () -> pier.addBuyer(1000001));
            refuses("addBuyer", pier, BAD_STATE, () -> pier.addBuyer(1));
            refuses("setLimit", pier, NO_INDEX, () -> pier.setLimit(5, 0, 1));
            refuses("setLimit", pier, BAD_ARGUMENT, () -> pier.setLimit(4, 0, 10000));
            refuses("setClock", pier, BAD_ARGUMENT, () -> pier.setClock(60, 1, 61));
            refuses("setClock", pier, BAD_ARGUMENT, () -> pier.setClock(60, 501, 0));
            refuses("sell", pier, BAD_STATE, () -> pier.sell(1));
            refuses("sell", pier, NO_ELEMENT, () -> pier.sell(20));
            refuses("addTruck", pier, BAD_ARGUMENT, () -> pier.addTruck(60, 100, true));
            refuses("addTruck", pier, BAD_STATE, () -> pier.addTruck(61, 100, true));
            refuses("load", pier, NO_ELEMENT, () -> pier.load(20, 1));
            refuses("load", pier, NO_INDEX, () -> pier.load(1, 4));
            refuses("load", pier, BAD_STATE, () -> pier.load(1, 0));
            refuses("sell", pier, UNSUPPORTED, () -> pier.sell(5));
        });
        says(TERMS, CHANGES_NOTHING, () -> {
            Fishpier pier = pierWithBoats(1);
            pier.addBoat(0, 0, 0, 0);
            refuses("land", pier, UNSUPPORTED, () -> pier.land(1, 3, 0, 2000, true));
            for (int day = 0; day < 19; day++) {
                pier.endDay();
            }
            refuses("endDay", pier, BAD_STATE, pier::endDay);
        });
    }

    private void refusedCallsWorkLater() {
        says(TERMS, CHANGES_NOTHING, () -> {
            Fishpier pier = new Fishpier();
            for (int times = 0; times < 30; times++) {
                refuses("a boat", pier, BAD_ARGUMENT, () -> pier.addBoat(0, 0, 0, -1));
                refuses("a buyer", pier, BAD_ARGUMENT, () -> pier.addBuyer(-1));
                refuses("a truck", pier, BAD_ARGUMENT, () -> pier.addTruck(0, 100, true));
            }
            is("the first boat", 0, pier.addBoat(0, 0, 0, 5));
            is("the first buyer", 0, pier.addBuyer(0));
            is("the first truck", 0, pier.addTruck(1, 100, true));
            for (int times = 0; times < 30; times++) {
                refuses("a lot", pier, UNSUPPORTED, () -> pier.land(0, 0, 0, 1, true));
                refuses("a lot", pier, BAD_ARGUMENT, () -> pier.land(0, 3, 0, 0, true));
            }
            is("the first lot", 0, pier.land(0, 3, 0, 1, false));
            pier.sell(0);
            for (int times = 0; times < 30; times++) {
                refuses("to load it", pier, UNSUPPORTED, () -> pier.load(0, 0));
            }
            refuses("nothing is loaded", pier, NO_ELEMENT, () -> pier.lotOn(0, 0));
        });
    }

    private void firstOfBoats() {
        says(TERMS, FIRST, () -> {
            Fishpier pier = pierWithBoats(6);
            refuses("addBoat: quota, 6 boats", pier, BAD_ARGUMENT, () -> pier.addBoat(0, 0, 0, 10000));
        });
        says(TERMS, FIRST, () -> {
            Fishpier pier = pierWithAllLots();
            pier.addBoat(0, 0, 0, 0);
            refuses("land: boat, weight", pier, NO_INDEX, () -> pier.land(2, 0, 0, 0, true));
            refuses("land: boat, 20 lots", pier, NO_INDEX, () -> pier.land(2, 0, 0, 1, true));
            refuses("land: boat, weight, 20 lots", pier, NO_INDEX, () -> pier.land(-1, 4, 3, 2001, true));
            refuses("land: species, 20 lots", pier, BAD_ARGUMENT, () -> pier.land(0, 4, 0, 1, true));
            refuses("land: size, 20 lots", pier, BAD_ARGUMENT, () -> pier.land(0, 0, 3, 1, true));
            refuses("land: weight, 20 lots", pier, BAD_ARGUMENT, () -> pier.land(0, 0, 0, 0, true));
            refuses("land: weight, 20 lots, quota", pier, BAD_ARGUMENT, () -> pier.land(1, 0, 0, 2001, true));
            refuses("land: 20 lots, quota", pier, BAD_STATE, () -> pier.land(1, 0, 0, 1, true));
        });
        says(TERMS, FIRST, () -> {
            Fishpier pier = new Fishpier();
            pier.addBoat(0, 0, 0, 0);
            refuses("land: size, quota", pier, BAD_ARGUMENT, () -> pier.land(0, 0, -1, 1, true));
            refuses("land: weight, quota", pier, BAD_ARGUMENT, () -> pier.land(0, 0, 0, 0, true));
        });
        says(TERMS, FIRST, () -> {
            Fishpier pier = new Fishpier();
            pier.addBoat(5, 5, 5, 5);
            pier.addBoat(5, 5, 5, 5);
            refuses("moveQuota: from, species", pier, NO_INDEX, () -> pier.moveQuota(2, 1, 4, 1));
            refuses("moveQuota: to, kilograms", pier, NO_INDEX, () -> pier.moveQuota(0, 2, 0, 0));
            refuses("moveQuota: to, less", pier, NO_INDEX, () -> pier.moveQuota(0, 2, 0, 6));
            refuses("moveQuota: both, the same", pier, NO_INDEX, () -> pier.moveQuota(2, 2, 0, 1));
            refuses("moveQuota: the same, less", pier, BAD_ARGUMENT, () -> pier.moveQuota(1, 1, 0, 6));
            refuses("moveQuota: kilograms, less", pier, BAD_ARGUMENT, () -> pier.moveQuota(0, 1, 0, 10000));
        });
    }

    private void firstOfDays() {
        says(TERMS, FIRST, () -> {
            Fishpier pier = pierWithBoats(1);
            refuses("quota: boat, species", pier, NO_INDEX, () -> pier.quota(1, 4));
            refuses("quota: boat, species", pier, NO_INDEX, () -> pier.quota(-1, -1));
        });
        says(TERMS, FIRST, () -> {
            Fishpier pier = pierWithBoats(1);
            pier.endDay();
            refuses("quotaAt: boat, species", pier, NO_INDEX, () -> pier.quotaAt(1, 4, 0));
            refuses("quotaAt: boat, day", pier, NO_INDEX, () -> pier.quotaAt(1, 0, 1));
            refuses("quotaAt: species, day", pier, BAD_ARGUMENT, () -> pier.quotaAt(0, 4, 1));
            refuses("quotaAt: species, day", pier, BAD_ARGUMENT, () -> pier.quotaAt(0, -1, -1));
        });
    }

    private void firstOfLots() {
        says(TERMS, FIRST, () -> {
            Fishpier pier = pierWithLotsInAllStates();
            refuses("ice: lot, kilograms", pier, NO_ELEMENT, () -> pier.ice(5, 0));
            refuses("ice: lot, kilograms", pier, NO_ELEMENT, () -> pier.ice(-1, 1000));
            refuses("ice: kilograms, delivered", pier, BAD_ARGUMENT, () -> pier.ice(3, 0));
            refuses("ice: kilograms, spoiled", pier, BAD_ARGUMENT, () -> pier.ice(4, 1000));
        });
    }

    private void firstOfBuyers() {
        says(TERMS, FIRST, () -> {
            Fishpier pier = fullPier();
            refuses("addBuyer: budget, 5 buyers", pier, BAD_ARGUMENT, () -> pier.addBuyer(-1));
            refuses("addBuyer: budget, 5 buyers", pier, BAD_ARGUMENT, () -> pier.addBuyer(1000001));
        });
        says(TERMS, FIRST, () -> {
            Fishpier pier = fullPier();
            refuses("setLimit: buyer, species", pier, NO_INDEX, () -> pier.setLimit(5, 4, 1));
            refuses("setLimit: buyer, limit", pier, NO_INDEX, () -> pier.setLimit(-1, 0, 10000));
        });
        says(TERMS, FIRST, () -> {
            Fishpier pier = fullPier();
            refuses("offer: buyer, lot", pier, NO_INDEX, () -> pier.offer(5, 20));
            refuses("offer: buyer, lot", pier, NO_INDEX, () -> pier.offer(-1, -1));
        });
    }

    private void firstOfSales() {
        says(TERMS, FIRST, () -> {
            Fishpier pier = pierWithLotsInAllStates();
            pier.setClock(9999, 1, 9999);
            for (int lot = 1; lot < 5; lot++) {
                int asked = lot;
                refuses("price: state, no buyer", pier, BAD_STATE, () -> pier.price(asked));
                refuses("priceByBuyers: state, no buyer", pier, BAD_STATE, () -> pier.priceByBuyers(asked));
                refuses("sell: state, no buyer", pier, BAD_STATE, () -> pier.sell(asked));
            }
            refuses("price: no buyer", pier, UNSUPPORTED, () -> pier.price(0));
            refuses("priceByBuyers: no buyer", pier, UNSUPPORTED, () -> pier.priceByBuyers(0));
            refuses("sell: no buyer", pier, UNSUPPORTED, () -> pier.sell(0));
        });
        says(TERMS, FIRST, () -> {
            Fishpier pier = new Fishpier();
            refuses("price: lot, no buyer", pier, NO_ELEMENT, () -> pier.price(0));
            refuses("priceByBuyers: lot, no buyer", pier, NO_ELEMENT, () -> pier.priceByBuyers(0));
            refuses("sell: lot, no buyer", pier, NO_ELEMENT, () -> pier.sell(0));
        });
    }

    private void firstOfTrucks() {
        says(TERMS, FIRST, () -> {
            Fishpier pier = fullPier();
            refuses("addTruck: hour, 4 trucks", pier, BAD_ARGUMENT, () -> pier.addTruck(60, 100, true));
            refuses("addTruck: hour, 4 trucks", pier, BAD_ARGUMENT, () -> pier.addTruck(1001, 100, true));
            refuses("addTruck: room, 4 trucks", pier, BAD_ARGUMENT, () -> pier.addTruck(61, 99, true));
            refuses("addTruck: room, 4 trucks", pier, BAD_ARGUMENT, () -> pier.addTruck(61, 10000, true));
        });
        says(TERMS, FIRST, () -> {
            Fishpier pier = fullPier();
            refuses("lotOn: truck, index", pier, NO_INDEX, () -> pier.lotOn(4, 5));
            refuses("lotOn: truck, index", pier, NO_INDEX, () -> pier.lotOn(-1, -1));
        });
    }

    private void firstOfLoading() {
        says(TERMS, FIRST, () -> {
            Fishpier pier = pierWithLotsInAllStates();
            refuses("load: lot, truck", pier, NO_ELEMENT, () -> pier.load(5, 2));
            refuses("load: lot, truck", pier, NO_ELEMENT, () -> pier.load(-1, -1));
            refuses("load: lot, the truck has left", pier, NO_ELEMENT, () -> pier.load(5, 0));
            refuses("load: truck, for sale", pier, NO_INDEX, () -> pier.load(0, 2));
            refuses("load: truck, loaded", pier, NO_INDEX, () -> pier.load(2, -1));
            refuses("load: truck, delivered", pier, NO_INDEX, () -> pier.load(3, 2));
            refuses("load: truck, spoiled", pier, NO_INDEX, () -> pier.load(4, 2));
        });
    }

    /** Each reason of the state, together with a loose lot for a closed truck. */
    private void firstOfLoadingLooseLots() {
        says(TERMS, FIRST, () -> {
            Fishpier pier = pierWithLooseLots();
            pier.addTruck(60, 100, false);
            pier.addTruck(100, 500, false);
            pier.addTruck(100, 500, true);
            pier.load(1, 0);
            pier.load(2, 1);
            refuses("load: for sale, loose", pier, BAD_STATE, () -> pier.load(0, 2));
            refuses("load: loaded, loose", pier, BAD_STATE, () -> pier.load(2, 2));
            tick(pier, 60);
            refuses("load: delivered, loose", pier, BAD_STATE, () -> pier.load(1, 2));
            refuses("load: spoiled, loose", pier, BAD_STATE, () -> pier.load(0, 2));
            refuses("load: sold, loose", pier, UNSUPPORTED, () -> pier.load(3, 2));
        });
        says(TERMS, FIRST, () -> {
            Fishpier pier = pierWithLooseLots();
            pier.addTruck(1, 500, true);
            refuses("load: sold, loose", pier, UNSUPPORTED, () -> pier.load(3, 0));
            pier.tick();
            refuses("load: the truck has left, loose", pier, BAD_STATE, () -> pier.load(3, 0));
        });
        says(TERMS, FIRST, () -> {
            Fishpier pier = pierWithLooseLots();
            pier.addTruck(5, 100, true);
            pier.addTruck(5, 101, true);
            refuses("load: less room, loose", pier, BAD_STATE, () -> pier.load(4, 0));
            refuses("load: just room, loose", pier, UNSUPPORTED, () -> pier.load(4, 1));
        });
        says(TERMS, FIRST, () -> {
            Fishpier pier = pierWithLooseLots();
            pier.addTruck(5, 500, true);
            for (int boxed = 0; boxed < 4; boxed++) {
                int lot = pier.land(0, 0, 0, 1, true);
                pier.sell(lot);
                pier.load(lot, 0);
            }
            refuses("load: 4 lots, loose", pier, UNSUPPORTED, () -> pier.load(3, 0));
            int fifth = pier.land(0, 0, 0, 1, true);
            pier.sell(fifth);
            pier.load(fifth, 0);
            refuses("load: 5 lots, loose", pier, BAD_STATE, () -> pier.load(3, 0));
        });
    }

    /** Loose lots: 0 is for sale, 1 to 4 are sold, and 4 has 101 kilograms. */
    private static Fishpier pierWithLooseLots() {
        Fishpier pier = pierWithBoats(1);
        addBuyer(pier, 1000000, 50);
        for (int lot = 0; lot < 5; lot++) {
            pier.land(0, 0, 0, lot == 4 ? 101 : 10, false);
        }
        for (int lot = 1; lot < 5; lot++) {
            pier.sell(lot);
        }
        return pier;
    }
}
