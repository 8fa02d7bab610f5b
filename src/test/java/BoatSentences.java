/** Promises 1 to 8, sentence by sentence: boats, quotas, landing and days. */
final class BoatSentences extends SentenceGroup {
    BoatSentences(Sentences sentences, Checks checks) {
        super(sentences, checks);
    }

    @Override
    void tell() {
        newPier();
        addBoat();
        landArguments();
        landRefusals();
        moveQuotaArguments();
        moveQuotaRefusals();
        quota();
        quotaAtArguments();
        quotaAtRefusals();
        endDay();
        beyond();
    }

    private void newPier() {
        says("Promise 1", "`Fishpier()`: Creates a pier without boats", () -> {
            Fishpier pier = new Fishpier();
            refuses("no boat 0", pier, NO_INDEX, () -> pier.quota(0, 0));
            is("the first boat is 0", 0, pier.addBoat(1, 1, 1, 1));
        });
        says("Promise 1", "`Fishpier()`: Creates a pier without boats, lots", () -> {
            Fishpier pier = new Fishpier();
            refuses("no lot 0", pier, NO_ELEMENT, () -> pier.weight(0));
            pier.addBoat(1, 1, 1, 1);
            is("the first lot is 0", 0, pier.land(0, 0, 0, 1, true));
        });
        says("Promise 1", "`Fishpier()`: Creates a pier without boats, lots, buyers", () -> {
            Fishpier pier = new Fishpier();
            refuses("no buyer 0", pier, NO_INDEX, () -> pier.budget(0));
            is("the first buyer is 0", 0, pier.addBuyer(0));
        });
        says("Promise 1", "`Fishpier()`: Creates a pier without boats, lots, buyers and trucks", () -> {
            Fishpier pier = new Fishpier();
            refuses("no truck 0", pier, NO_INDEX, () -> pier.lotOn(0, 0));
            is("the first truck is 0", 0, pier.addTruck(1, 100, false));
        });
        says("Promise 1", "`Fishpier()`: Creates a pier without boats, lots, buyers and trucks, at tick 0", () -> {
            is("the time", 0, new Fishpier().time());
            Fishpier pier = new Fishpier();
            refuses("hour 0 is the present", pier, BAD_ARGUMENT, () -> pier.addTruck(0, 100, false));
        });
        says("Promise 1", "`Fishpier()`: Creates a pier without boats, lots, buyers and trucks, at tick 0 of day 0",
                () -> is("the day after the first", 1, new Fishpier().endDay()));
    }

    // Promise 2

    private void addBoat() {
        String[] arguments = {"- `first`", "- `second`", "- `third`", "- `fourth`"};
        for (int species = 0; species < 4; species++) {
            int asked = species;
            says("Promise 2", arguments[species], () -> {
                Fishpier pier = new Fishpier();
                addBoatWith(pier, asked, 0);
                addBoatWith(pier, asked, 9999);
                is("the least quota", 0, pier.quota(0, asked));
                is("the greatest quota", 9999, pier.quota(1, asked));
                is("another quota", 7, pier.quota(1, (asked + 1) % 4));
            });
            says("Promise 2", THROWS_BAD_ARGUMENT, () -> {
                Fishpier pier = new Fishpier();
                refusesEach("quota of species " + asked, pier, BAD_ARGUMENT, numbers(-1, 10000, LEAST, GREATEST),
                        wrong -> addBoatWith(pier, asked, wrong));
                is("the next boat is the first", 0, pier.addBoat(0, 0, 0, 0));
            });
        }
        says("Promise 2", "Returns", () -> {
            Fishpier pier = new Fishpier();
            for (int boat = 0; boat < 6; boat++) {
                is("the number", boat, pier.addBoat(boat, 0, 0, 0));
            }
        });
        says("Promise 2", THROWS_BAD_STATE, () -> {
            Fishpier pier = pierWithBoats(5);
            is("there is room for a sixth", 5, pier.addBoat(1, 2, 3, 4));
            refuses("there is none for a seventh", pier, BAD_STATE, () -> pier.addBoat(1, 2, 3, 4));
            is("the sixth is as it was", 4, pier.quota(5, 3));
        });
    }

    private static int addBoatWith(Fishpier pier, int species, int quota) {
        int[] quotas = {7, 7, 7, 7};
        quotas[species] = quota;
        return pier.addBoat(quotas[0], quotas[1], quotas[2], quotas[3]);
    }

    // Promise 3

    private void landArguments() {
        says("Promise 3", "- `boat`", () -> {
            Fishpier pier = pierWithBoats(6);
            pier.land(0, 0, 0, 1, true);
            pier.land(5, 0, 0, 2, true);
            is("the first boat's quota", 9998, pier.quota(0, 0));
            is("the last boat's quota", 9997, pier.quota(5, 0));
            is("the quota of one between", 9999, pier.quota(4, 0));
        });
        says("Promise 3", "- `species`", () -> {
            Fishpier pier = pierWithBoats(1);
            pier.land(0, 0, 0, 1, true);
            pier.land(0, 3, 0, 2, true);
            is("the first species' quota", 9998, pier.quota(0, 0));
            is("the last species' quota", 9997, pier.quota(0, 3));
            is("the quota of one between", 9999, pier.quota(0, 1));
        });
        says("Promise 3", "- `size`", () -> {
            Fishpier pier = pierWithBoats(1);
            pier.land(0, 0, 0, 1, true);
            pier.land(0, 0, 2, 1, true);
            addBuyer(pier, 0, 100);
            is("the least size", 100, pier.offer(0, 0));
            is("the greatest size", 120, pier.offer(0, 1));
        });
        says("Promise 3", "- `kilograms`", () -> {
            Fishpier pier = pierWithLots(1, 2000);
            is("the least", 1, pier.weight(0));
            is("the greatest", 2000, pier.weight(1));
            is("both are drawn", 7998, pier.quota(0, 0));
        });
        says("Promise 3", "- `isBoxed`", () -> {
            Fishpier pier = pierWithSoldLots(10);
            pier.sell(pier.land(0, 0, 0, 10, false));
            pier.addTruck(1, 100, true);
            refuses("a loose lot", pier, UNSUPPORTED, () -> pier.load(1, 0));
            is("a boxed lot", 90, pier.load(0, 0));
        });
        says("Promise 3", "Returns", () -> {
            Fishpier pier = pierWithBoats(2);
            for (int lot = 0; lot < 20; lot++) {
                is("the number", lot, pier.land(lot % 2, lot % 4, lot % 3, 1 + lot, lot % 2 == 0));
            }
        });
    }

    private void landRefusals() {
        says("Promise 3", THROWS_NO_INDEX, () -> {
            Fishpier empty = new Fishpier();
            refusesEach("of no boats", empty, NO_INDEX, numbers(-1, 0, 5, 6), boat -> empty.land(boat, 0, 0, 1, true));
            Fishpier pier = pierWithBoats(1);
            refusesEach("of one boat", pier, NO_INDEX, numbers(LEAST, -1, 1, 5, 6, GREATEST),
                    boat -> pier.land(boat, 0, 0, 1, true));
            Fishpier full = pierWithBoats(6);
            refusesEach("of six boats", full, NO_INDEX, numbers(LEAST, -1, 6, GREATEST),
                    boat -> full.land(boat, 0, 0, 1, true));
        });
        says("Promise 3", THROWS_BAD_ARGUMENT, () -> {
            Fishpier pier = pierWithBoats(1);
            refusesEach("species", pier, BAD_ARGUMENT, numbers(LEAST, -1, 4, GREATEST),
                    species -> pier.land(0, species, 0, 1, true));
        });
        says("Promise 3", THROWS_BAD_ARGUMENT, () -> {
            Fishpier pier = pierWithBoats(1);
            refusesEach("size", pier, BAD_ARGUMENT, numbers(LEAST, -1, 3, GREATEST),
                    size -> pier.land(0, 0, size, 1, true));
        });
        says("Promise 3", THROWS_BAD_ARGUMENT, () -> {
            Fishpier pier = pierWithBoats(1);
            refusesEach("kilograms", pier, BAD_ARGUMENT, numbers(LEAST, -1, 0, 2001, GREATEST),
                    kilograms -> pier.land(0, 0, 0, kilograms, true));
            is("the next lot is the first", 0, pier.land(0, 0, 0, 1, true));
        });
        says("Promise 3", THROWS_BAD_STATE, () -> {
            Fishpier pier = pierWithBoats(1);
            for (int lot = 0; lot < 19; lot++) {
                pier.land(0, 0, 0, 10, true);
            }
            is("there is room for a twentieth", 19, pier.land(0, 0, 0, 10, true));
            refuses("there is none for one more", pier, BAD_STATE, () -> pier.land(0, 0, 0, 10, true));
            refuses("nor beyond the quota", pier, BAD_STATE, () -> pier.land(0, 1, 2, 2000, false));
            is("the quota is not drawn", 9799, pier.quota(0, 0));
        });
        says("Promise 3", THROWS_UNSUPPORTED, () -> {
            Fishpier pier = new Fishpier();
            pier.addBoat(1, 0, 9999, 9999);
            refuses("a quota of 0", pier, UNSUPPORTED, () -> pier.land(0, 1, 0, 1, true));
            is("a quota of 1", 0, pier.land(0, 0, 0, 2000, true));
            refuses("a quota that is used up", pier, UNSUPPORTED, () -> pier.land(0, 0, 0, 1, true));
            is("only what landed is beyond", 1999, pier.beyond());
            is("the next lot is the second", 1, pier.land(0, 2, 0, 1, true));
        });
        says("Promise 3", THROWS_UNSUPPORTED, () -> {
            Fishpier pier = new Fishpier();
            pier.addBoat(5, 0, 0, 0);
            pier.addBoat(0, 0, 0, 0);
            pier.moveQuota(0, 1, 0, 5);
            refuses("a quota that was moved away", pier, UNSUPPORTED, () -> pier.land(0, 0, 0, 1, true));
            is("a quota that was moved here", 0, pier.land(1, 0, 0, 1, true));
        });
    }

    // Promise 4

    private void moveQuotaArguments() {
        says("Promise 4", "- `from`", () -> {
            Fishpier pier = pierWithBoats(6);
            pier.moveQuota(0, 1, 0, 10);
            pier.moveQuota(5, 1, 0, 20);
            is("the first boat gives", 9989, pier.quota(0, 0));
            is("the last boat gives", 9979, pier.quota(5, 0));
            is("the other one gets both", 10029, pier.quota(1, 0));
        });
        says("Promise 4", "- `to`", () -> {
            Fishpier pier = pierWithBoats(6);
            pier.moveQuota(1, 0, 0, 10);
            pier.moveQuota(1, 5, 0, 20);
            is("the first boat gets", 10009, pier.quota(0, 0));
            is("the last boat gets", 10019, pier.quota(5, 0));
            is("the other one gives both", 9969, pier.quota(1, 0));
        });
        says("Promise 4", "- `species`", () -> {
            Fishpier pier = pierWithBoats(2);
            pier.moveQuota(0, 1, 0, 10);
            pier.moveQuota(0, 1, 3, 20);
            is("the first species", 9989, pier.quota(0, 0));
            is("the last species", 9979, pier.quota(0, 3));
            is("one between", 9999, pier.quota(0, 2));
        });
        says("Promise 4", "- `kilograms`", () -> {
            Fishpier pier = pierWithBoats(2);
            is("the least", 9998, pier.moveQuota(0, 1, 0, 1));
            is("the greatest", 1, pier.moveQuota(1, 0, 0, 9999));
            is("what the other one has then", 19997, pier.quota(0, 0));
        });
        says("Promise 4", "Returns", () -> {
            Fishpier pier = pierWithBoats(2);
            is("after a part", 9000, pier.moveQuota(0, 1, 0, 999));
            is("after all of it", 0, pier.moveQuota(0, 1, 0, 9000));
            is("from what was moved", 19997, pier.moveQuota(1, 0, 0, 1));
        });
        says("Promise 4", "Returns", () -> {
            Fishpier pier = pierWithBoats(6);
            for (int boat = 1; boat < 6; boat++) {
                is("all of a boat", 0, pier.moveQuota(boat, 0, 3, 9999));
            }
            is("the greatest quota there can be", 59994, pier.quota(0, 3));
            is("a part of it", 49995, pier.moveQuota(0, 5, 3, 9999));
        });
    }

    private void moveQuotaRefusals() {
        says("Promise 4", THROWS_NO_INDEX, () -> {
            Fishpier pier = pierWithBoats(2);
            refusesEach("from", pier, NO_INDEX, numbers(LEAST, -1, 2, 5, 6, GREATEST),
                    boat -> pier.moveQuota(boat, 0, 0, 1));
            Fishpier full = pierWithBoats(6);
            refusesEach("from, of six", full, NO_INDEX, numbers(-1, 6), boat -> full.moveQuota(boat, 0, 0, 1));
        });
        says("Promise 4", THROWS_NO_INDEX, () -> {
            Fishpier pier = pierWithBoats(2);
            refusesEach("to", pier, NO_INDEX, numbers(LEAST, -1, 2, 5, 6, GREATEST),
                    boat -> pier.moveQuota(0, boat, 0, 1));
            Fishpier full = pierWithBoats(6);
            refusesEach("to, of six", full, NO_INDEX, numbers(-1, 6), boat -> full.moveQuota(0, boat, 0, 1));
        });
        says("Promise 4", THROWS_NO_INDEX, () -> {
            Fishpier empty = new Fishpier();
            refuses("no boats", empty, NO_INDEX, () -> empty.moveQuota(0, 1, 0, 1));
            refuses("no boats, twice the same", empty, NO_INDEX, () -> empty.moveQuota(0, 0, 0, 1));
        });
        says("Promise 4", THROWS_BAD_ARGUMENT, () -> {
            Fishpier pier = pierWithBoats(6);
            refusesEach("both are the same", pier, BAD_ARGUMENT, numbers(0, 3, 5),
                    boat -> pier.moveQuota(boat, boat, 0, 1));
        });
        says("Promise 4", THROWS_BAD_ARGUMENT, () -> {
            Fishpier pier = pierWithBoats(2);
            refusesEach("species", pier, BAD_ARGUMENT, numbers(LEAST, -1, 4, GREATEST),
                    species -> pier.moveQuota(0, 1, species, 1));
        });
        says("Promise 4", THROWS_BAD_ARGUMENT, () -> {
            Fishpier pier = pierWithBoats(3);
            pier.moveQuota(2, 0, 0, 9999);
            refusesEach("kilograms", pier, BAD_ARGUMENT, numbers(LEAST, -1, 0, 10000, GREATEST),
                    kilograms -> pier.moveQuota(0, 1, 0, kilograms));
        });
        says("Promise 4", THROWS_BAD_STATE, () -> {
            Fishpier pier = new Fishpier();
            pier.addBoat(100, 0, 9998, 0);
            pier.addBoat(0, 0, 0, 0);
            refuses("one less", pier, BAD_STATE, () -> pier.moveQuota(0, 1, 0, 101));
            refuses("nothing at all", pier, BAD_STATE, () -> pier.moveQuota(0, 1, 1, 1));
            refuses("the greatest", pier, BAD_STATE, () -> pier.moveQuota(0, 1, 2, 9999));
            is("not less", 0, pier.moveQuota(0, 1, 0, 100));
            refuses("used up", pier, BAD_STATE, () -> pier.moveQuota(0, 1, 0, 1));
        });
        says("Promise 4", THROWS_BAD_STATE, () -> {
            Fishpier pier = new Fishpier();
            pier.addBoat(100, 0, 0, 0);
            pier.addBoat(0, 0, 0, 0);
            pier.land(0, 0, 0, 40, true);
            refuses("what is left is less, not what was given", pier, BAD_STATE, () -> pier.moveQuota(0, 1, 0, 61));
            is("what is left", 0, pier.moveQuota(0, 1, 0, 60));
        });
    }

    // Promise 5

    private void quota() {
        says("Promise 5", "- `boat`", () -> {
            Fishpier pier = new Fishpier();
            for (int boat = 0; boat < 6; boat++) {
                pier.addBoat(10 + boat, 0, 0, 0);
            }
            is("the first", 10, pier.quota(0, 0));
            is("the last", 15, pier.quota(5, 0));
        });
        says("Promise 5", "- `species`", () -> {
            Fishpier pier = new Fishpier();
            pier.addBoat(11, 12, 13, 14);
            is("the first", 11, pier.quota(0, 0));
            is("the last", 14, pier.quota(0, 3));
        });
        says("Promise 5", "Returns", () -> {
            Fishpier pier = new Fishpier();
            pier.addBoat(0, 9999, 30, 0);
            is("the least", 0, pier.quota(0, 0));
            is("the greatest", 9999, pier.quota(0, 1));
            pier.land(0, 2, 0, 29, true);
            is("one is left", 1, pier.quota(0, 2));
            pier.land(0, 2, 0, 29, true);
            is("nothing is left, not less", 0, pier.quota(0, 2));
        });
        says("Promise 5", THROWS_NO_INDEX, () -> {
            Fishpier pier = new Fishpier();
            refusesEach("of no boats", pier, NO_INDEX, numbers(-1, 0, 5, 6), boat -> pier.quota(boat, 0));
            pier.addBoat(1, 1, 1, 1);
            refusesEach("of one boat", pier, NO_INDEX, numbers(LEAST, -1, 1, 5, 6, GREATEST),
                    boat -> pier.quota(boat, 0));
            Fishpier full = pierWithBoats(6);
            refusesEach("of six boats", full, NO_INDEX, numbers(-1, 6), boat -> full.quota(boat, 0));
        });
        says("Promise 5", THROWS_BAD_ARGUMENT, () -> {
            Fishpier pier = pierWithBoats(1);
            refusesEach("species", pier, BAD_ARGUMENT, numbers(LEAST, -1, 4, GREATEST),
                    species -> pier.quota(0, species));
        });
    }

    // Promise 6

    private void quotaAtArguments() {
        says("Promise 6", "- `boat`", () -> {
            Fishpier pier = new Fishpier();
            for (int boat = 0; boat < 6; boat++) {
                pier.addBoat(10 + boat, 0, 0, 0);
            }
            pier.endDay();
            is("the first", 10, pier.quotaAt(0, 0, 0));
            is("the last", 15, pier.quotaAt(5, 0, 0));
        });
        says("Promise 6", "- `species`", () -> {
            Fishpier pier = new Fishpier();
            pier.addBoat(11, 12, 13, 14);
            pier.endDay();
            is("the first", 11, pier.quotaAt(0, 0, 0));
            is("the last", 14, pier.quotaAt(0, 3, 0));
        });
        says("Promise 6", "- `day`", () -> {
            Fishpier pier = pierWithBoats(1);
            for (int day = 0; day < 19; day++) {
                pier.land(0, 3, 0, 1, true);
                pier.endDay();
            }
            is("the first", 9998, pier.quotaAt(0, 3, 0));
            is("the last", 9980, pier.quotaAt(0, 3, 18));
            is("another species on the last", 9999, pier.quotaAt(0, 0, 18));
        });
        says("Promise 6", "Returns", () -> {
            Fishpier pier = new Fishpier();
            pier.endDay();
            pier.addBoat(5, 6, 7, 8);
            is("0 if it was added later", 0, pier.quotaAt(0, 0, 0));
            pier.endDay();
            is("what was left if it was added that day", 5, pier.quotaAt(0, 0, 1));
            is("still 0 for the day before", 0, pier.quotaAt(0, 3, 0));
        });
        says("Promise 6", "Returns", () -> {
            Fishpier pier = new Fishpier();
            pier.addBoat(5, 6, 7, 8);
            pier.addBoat(0, 0, 0, 0);
            pier.land(0, 0, 0, 5, true);
            pier.moveQuota(0, 1, 1, 6);
            pier.endDay();
            pier.moveQuota(1, 0, 1, 6);
            is("0 if all was landed", 0, pier.quotaAt(0, 0, 0));
            is("0 if all was moved", 0, pier.quotaAt(0, 1, 0));
            is("what was moved here", 6, pier.quotaAt(1, 1, 0));
        });
    }

    private void quotaAtRefusals() {
        says("Promise 6", THROWS_NO_INDEX, () -> {
            Fishpier pier = new Fishpier();
            pier.endDay();
            refusesEach("of no boats", pier, NO_INDEX, numbers(-1, 0, 5, 6), boat -> pier.quotaAt(boat, 0, 0));
            pier.addBoat(1, 1, 1, 1);
            refusesEach("of one boat", pier, NO_INDEX, numbers(LEAST, -1, 1, 5, 6, GREATEST),
                    boat -> pier.quotaAt(boat, 0, 0));
            Fishpier full = pierWithBoats(6);
            full.endDay();
            refusesEach("of six boats", full, NO_INDEX, numbers(-1, 6), boat -> full.quotaAt(boat, 0, 0));
        });
        says("Promise 6", THROWS_BAD_ARGUMENT, () -> {
            Fishpier pier = pierWithBoats(1);
            pier.endDay();
            refusesEach("species", pier, BAD_ARGUMENT, numbers(LEAST, -1, 4, GREATEST),
                    species -> pier.quotaAt(0, species, 0));
        });
        says("Promise 6", THROWS_NO_ELEMENT, () -> {
            Fishpier pier = pierWithBoats(1);
            refusesEach("no day has ended", pier, NO_ELEMENT, numbers(LEAST, -1, 0, 1, GREATEST),
                    day -> pier.quotaAt(0, 0, day));
            pier.endDay();
            is("the day that has ended", 9999, pier.quotaAt(0, 0, 0));
            refusesEach("one day has ended", pier, NO_ELEMENT, numbers(LEAST, -1, 1, 2, GREATEST),
                    day -> pier.quotaAt(0, 0, day));
        });
        says("Promise 6", THROWS_NO_ELEMENT, () -> {
            Fishpier pier = pierWithBoats(1);
            for (int day = 0; day < 19; day++) {
                pier.endDay();
            }
            is("the last day that ends", 9999, pier.quotaAt(0, 3, 18));
            refusesEach("a day that never ends", pier, NO_ELEMENT, numbers(LEAST, -1, 19, 20, GREATEST),
                    day -> pier.quotaAt(0, 3, day));
        });
    }

    // Promise 7

    private void endDay() {
        says("Promise 7", "Returns", () -> {
            Fishpier pier = new Fishpier();
            for (int day = 1; day <= 19; day++) {
                is("the day that begins", day, pier.endDay());
            }
        });
        says("Promise 7", THROWS_BAD_STATE, () -> {
            Fishpier pier = pierWithBoats(6);
            for (int day = 0; day < 18; day++) {
                pier.endDay();
            }
            is("day 18 ends", 19, pier.endDay());
            pier.land(0, 0, 0, 1, true);
            refuses("day 19 does not", pier, BAD_STATE, pier::endDay);
            refuses("nor the second time", pier, BAD_STATE, pier::endDay);
            is("day 18 is written as it was", 9999, pier.quotaAt(0, 0, 18));
        });
    }

    // Promise 8

    private void beyond() {
        says("Promise 8", "Returns", () -> is("nothing landed", 0, new Fishpier().beyond()));
        says("Promise 8", "Returns", () -> {
            Fishpier pier = new Fishpier();
            pier.addBoat(10, 10, 0, 0);
            pier.land(0, 0, 0, 10, true);
            is("exactly the quota", 0, pier.beyond());
            pier.land(0, 1, 0, 11, true);
            is("one beyond", 1, pier.beyond());
            refuses("no quota", pier, UNSUPPORTED, () -> pier.land(0, 2, 0, 11, true));
            is("what is refused is not beyond", 1, pier.beyond());
        });
        says("Promise 8", "Returns", () -> {
            Fishpier pier = new Fishpier();
            for (int boat = 0; boat < 6; boat++) {
                pier.addBoat(1, 1, 1, 1);
            }
            for (int lot = 0; lot < 20; lot++) {
                pier.land(lot / 4, lot % 4, 0, 2000, true);
            }
            is("the greatest there can be", 39980, pier.beyond());
        });
    }
}
