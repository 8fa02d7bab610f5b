import java.lang.reflect.Field;

/** The section "Terms", sentence by sentence, but for its last two, which ExceptionSentences tells. */
final class TermSentences extends SentenceGroup {
    private static final String TERMS = "Terms";

    TermSentences(Sentences sentences, Checks checks) {
        super(sentences, checks);
    }

    @Override
    void tell() {
        callsAndSales();
        numbersAreReckonedStepByStep();
        boatsAndSpecies();
        lots();
        landing();
        ticksAndIce();
        spoiling();
        trucksLeave();
        moneyBack();
        buyersAndOffers();
        clockShows();
        firstPriceAndItsBuyer();
        paying();
        trucks();
        days();
    }

    private void callsAndSales() {
        says("What it is", "An object is used for at most 512 calls", () -> {
            Fishpier pier = pierWithSoldLots(10);
            for (int call = 6; call < 512; call++) {
                is("time before call " + (call + 1), true, call % 2 == 0 ? pier.tick() == 0 : pier.isSound());
            }
            is("the 512th call", 253, pier.time());
        });
        says(TERMS, "Its calls are what happens at the pier; all other calls ask.", () -> {
            keeps("to ask for all of an empty pier", new Fishpier(), () -> Snapshot.of(new Fishpier()));
            Fishpier pier = pierWithLotsInAllStates();
            keeps("to ask for all", pier, () -> Snapshot.of(pier));
            is("to ask twice", Snapshot.of(pier), Snapshot.of(pier));
        });
        says(TERMS, "No fish is sold beyond a quota", () -> {
            Fishpier pier = new Fishpier();
            pier.addBoat(30, 0, 0, 0);
            pier.addBoat(500, 0, 0, 0);
            addBuyer(pier, 1000000, 10);
            pier.land(0, 0, 0, 100, true);
            pier.moveQuota(1, 0, 0, 500);
            is("a quota that comes later adds nothing", 30, pier.weight(0));
            pier.sell(0);
            is("only the lot is paid for", 300, pier.paidFor(0));
        });
    }

    private void numbersAreReckonedStepByStep() {
        says(TERMS, "Where the text says float or double", () -> {
            Fishpier pier = pierWithLots(10);
            double inDoubles = 100.0;
            float inFloats = 100.0f;
            for (int tick = 0; tick < 30; tick++) {
                pier.tick();
                inDoubles = inDoubles * 0.98;
                inFloats = inFloats * 0.98f;
            }
            is("freshness in floats", inFloats, pier.fresh(0));
            is("doubles would differ", true, (float) inDoubles != inFloats);
        });
        says(TERMS, "A conversion to int cuts off", () -> {
            Fishpier pier = pierWithLots(10);
            addBuyer(pier, 0, 1);
            addBuyer(pier, 0, 9999);
            is("1.0", 1, pier.offer(0, 0));
            pier.ice(0, 1);
            pier.tick();
            is("0.995", 0, pier.offer(0, 0));
            is("9949.005", 9949, pier.offer(1, 0));
            pier.tick();
            is("9750.02", 9750, pier.offer(1, 0));
        });
    }

    private void boatsAndSpecies() {
        says(TERMS, "At most 6 boats are numbered from 0.", () -> {
            Fishpier pier = new Fishpier();
            is("the first", 0, pier.addBoat(1, 1, 1, 1));
            for (int boat = 1; boat < 5; boat++) {
                pier.addBoat(1, 1, 1, 1);
            }
            is("the last", 5, pier.addBoat(1, 1, 1, 1));
            refuses("one more", pier, BAD_STATE, () -> pier.addBoat(1, 1, 1, 1));
        });
        says(TERMS, "There are the species 0 to 3.", () -> {
            Fishpier pier = pierWithBoats(2);
            pier.addBuyer(0);
            pier.endDay();
            for (int species = 0; species < 4; species++) {
                pier.land(0, species, 0, 1, true);
                pier.moveQuota(0, 1, species, 1);
                pier.setLimit(0, species, 1);
                is("species " + species, 9997, pier.quota(0, species));
                is("written down of species " + species, 9999, pier.quotaAt(0, species, 0));
            }
            refusesEach("quota", pier, BAD_ARGUMENT, numbers(-1, 4), species -> pier.quota(0, species));
            refusesEach("quotaAt", pier, BAD_ARGUMENT, numbers(-1, 4), species -> pier.quotaAt(0, species, 0));
            refusesEach("land", pier, BAD_ARGUMENT, numbers(-1, 4), species -> pier.land(0, species, 0, 1, true));
            refusesEach("moveQuota", pier, BAD_ARGUMENT, numbers(-1, 4), species -> pier.moveQuota(0, 1, species, 1));
            refusesEach("setLimit", pier, BAD_ARGUMENT, numbers(-1, 4), species -> pier.setLimit(0, species, 1));
        });
        says(TERMS, "A boat has a quota in kilograms for each species.", () -> {
            Fishpier pier = new Fishpier();
            pier.addBoat(1, 2, 3, 4);
            pier.addBoat(5, 6, 7, 8);
            pier.land(1, 2, 0, 7, true);
            is("the one that is drawn", 0, pier.quota(1, 2));
            is("another species of the boat", 8, pier.quota(1, 3));
            is("the species of another boat", 3, pier.quota(0, 2));
        });
    }

    private void lots() {
        says(TERMS, "At most 20 lots are numbered from 0.", () -> {
            Fishpier pier = pierWithLotsInAllStates();
            for (int lot = 5; lot < 19; lot++) {
                pier.land(0, 1, 0, 1, true);
            }
            is("the last", 19, pier.land(0, 1, 0, 1, true));
            refuses("one more, though some are gone", pier, BAD_STATE, () -> pier.land(0, 1, 0, 1, true));
        });
        says(TERMS, "A lot has a boat, a species, a size, 0 to 2", () -> {
            Fishpier pier = pierWithBoats(1);
            addBuyer(pier, 0, 100);
            for (int size = 0; size < 3; size++) {
                pier.land(0, 0, size, 1, true);
                is("size " + size, 100 + 10 * size, pier.offer(0, size));
            }
            refuses("size -1", pier, BAD_ARGUMENT, () -> pier.land(0, 0, -1, 1, true));
            refuses("size 3", pier, BAD_ARGUMENT, () -> pier.land(0, 0, 3, 1, true));
        });
        says(TERMS, "It is for sale, sold, loaded, delivered, or spoiled.", () -> {
            Fishpier pier = pierWithLotsInAllStates();
            is("for sale", 'f', pier.stateOf(0));
            is("sold", 's', pier.stateOf(1));
            is("loaded", 'l', pier.stateOf(2));
            is("delivered", 'd', pier.stateOf(3));
            is("spoiled", 'x', pier.stateOf(4));
        });
    }

    private void landing() {
        says(TERMS, "When a boat lands fish, the weight of the lot", () -> {
            Fishpier pier = new Fishpier();
            pier.addBoat(100, 100, 100, 2000);
            pier.land(0, 0, 0, 99, true);
            pier.land(0, 1, 0, 100, true);
            pier.land(0, 2, 0, 101, true);
            pier.land(0, 3, 0, 2000, true);
            is("one less than is left", 99, pier.weight(0));
            is("the quota then", 1, pier.quota(0, 0));
            is("just what is left", 100, pier.weight(1));
            is("the quota then", 0, pier.quota(0, 1));
            is("one more than is left", 100, pier.weight(2));
            is("the quota then, not less", 0, pier.quota(0, 2));
            is("the greatest", 2000, pier.weight(3));
        });
        says(TERMS, "What is beyond the quota is no part of the lot.", () -> {
            Fishpier pier = new Fishpier();
            pier.addBoat(1, 0, 0, 0);
            pier.land(0, 0, 0, 2000, true);
            is("the lot", 1, pier.weight(0));
            is("beyond", 1999, pier.beyond());
            pier.addBuyer(0);
            pier.sell(0);
            is("the share of the lot", 1.0f, pier.soldShare());
        });
        says(TERMS, "The lot is for sale, has the freshness 100.0f and no ice.", () -> {
            Fishpier pier = pierWithLots(10);
            tick(pier, 5);
            pier.ice(0, 5);
            pier.land(0, 0, 0, 10, true);
            is("state", 'f', pier.stateOf(1));
            is("freshness, landed late", 100.0f, pier.fresh(1));
            is("ice", 0, pier.iceOn(1));
            pier.tick();
            is("its first tick", 98.0f, pier.fresh(1));
        });
    }

    private void ticksAndIce() {
        says(TERMS, "Time is counted in ticks, from 0.", () -> {
            Fishpier pier = new Fishpier();
            is("before the first", 0, pier.time());
            pier.tick();
            is("after the first", 1, pier.time());
        });
        says(TERMS, "In a tick, first", () -> {
            int[] weights = {1, 9, 10, 11, 19, 20, 21, 1990, 1991, 1999, 2000};
            int[] needs = {1, 1, 1, 2, 2, 2, 3, 199, 200, 200, 200};
            for (int i = 0; i < weights.length; i++) {
                checkTick(weights[i], needs[i] - 1, 98.0f, needs[i] - 1);
                checkTick(weights[i], needs[i], 99.5f, 0);
                checkTick(weights[i], needs[i] + 1, 99.5f, 1);
            }
        });
        says(TERMS, "In a tick, first", () -> {
            Fishpier pier = pierWithLotsInAllStates();
            float[] before = new float[5];
            for (int lot = 0; lot < 5; lot++) {
                before[lot] = pier.fresh(lot);
            }
            pier.tick();
            is("for sale, with ice", before[0] * 0.995f, pier.fresh(0));
            is("sold", before[1] * 0.98f, pier.fresh(1));
            is("loaded", before[2] * 0.98f, pier.fresh(2));
            is("delivered", before[3], pier.fresh(3));
            is("spoiled", before[4], pier.fresh(4));
        });
        says(TERMS, "Then the time grows by 1.", () -> {
            Fishpier pier = pierWithLotsInAllStates();
            is("before", 60, pier.time());
            pier.tick();
            is("after", 61, pier.time());
        });
    }

    private void checkTick(int weight, int ice, float dueFresh, int dueIce) {
        Fishpier pier = pierWithLots(weight);
        if (ice > 0) {
            pier.ice(0, ice);
        }
        pier.tick();
        is(ice + " of ice on " + weight + ": freshness", dueFresh, pier.fresh(0));
        is(ice + " of ice on " + weight + ": ice", dueIce, pier.iceOn(0));
    }

    private void spoiling() {
        String sentence = "If its freshness is then less than 30.0f and it is for sale, it is spoiled.";
        says(TERMS, sentence, () -> {
            Fishpier above = pierAfter(83, 39);
            is("the nearest above 30", true, above.fresh(0) >= 30.0f && above.fresh(0) < 30.001f);
            is("is for sale", 'f', above.stateOf(0));
            above.tick();
            is("but not after the next tick", 'x', above.stateOf(0));
        });
        says(TERMS, sentence, () -> {
            Fishpier below = pierAfter(212, 7);
            is("the nearest below 30", true, below.fresh(0) < 30.0f && below.fresh(0) > 29.996f);
            is("is spoiled", 'x', below.stateOf(0));
        });
        says(TERMS, sentence, () -> {
            is("just 30", 'f', stateAfterTickFrom(30.612244f, 30.0f));
            is("the next float below 30", 'x', stateAfterTickFrom(30.612242f, 29.999998f));
        });
        says(TERMS, sentence, () -> {
            Fishpier pier = pierWithSoldLots(10, 10);
            pier.addTruck(100, 100, false);
            pier.load(1, 0);
            tick(pier, 99);
            is("a sold one does not spoil", 's', pier.stateOf(0));
            is("a loaded one does not spoil", 'l', pier.stateOf(1));
            pier.tick();
            is("it is delivered", 'd', pier.stateOf(1));
            is("nothing is spoiled", 0, pier.spoiled());
        });
    }

    /** A lot of 10 kilograms after so many ticks on ice and so many without. */
    private static Fishpier pierAfter(int ticksOnIce, int ticksWithout) {
        Fishpier pier = pierWithLots(10);
        if (ticksOnIce > 0) {
            pier.ice(0, ticksOnIce);
        }
        tick(pier, ticksOnIce + ticksWithout);
        return pier;
    }

    /** No run of calls comes to just 30, so that the freshness before is written into its field. */
    private char stateAfterTickFrom(float before, float due) {
        Fishpier pier = pierWithLots(10);
        try {
            Field lots = Fishpier.class.getDeclaredField("lots");
            lots.setAccessible(true);
            Object lot = ((Object[]) lots.get(pier))[0];
            Field freshness = lot.getClass().getDeclaredField("freshness");
            freshness.setAccessible(true);
            freshness.setFloat(lot, before);
        } catch (ReflectiveOperationException missing) {
            throw new AssertionError("freshness", missing);
        }
        pier.tick();
        is("freshness from " + before, due, pier.fresh(0));
        return pier.stateOf(0);
    }

    private void trucksLeave() {
        String sentence = "Then, in the order of their numbers, each truck whose hour this is leaves";
        says(TERMS, sentence, () -> {
            Fishpier pier = pierWithSoldLots(10, 10, 10, 10, 10, 10);
            pier.addTruck(3, 100, false);
            pier.addTruck(4, 100, false);
            for (int lot = 0; lot < 5; lot++) {
                pier.load(lot, 0);
            }
            pier.load(5, 1);
            tick(pier, 2);
            is("the tick before the hour", 'l', pier.stateOf(0));
            is("the hour", 1, pier.tick());
            is("the first lot", 'd', pier.stateOf(0));
            is("the fifth lot", 'd', pier.stateOf(4));
            is("a lot on the next truck", 'l', pier.stateOf(5));
            is("it ages before it is delivered", 100.0f * 0.98f * 0.98f * 0.98f, pier.fresh(0));
            is("the next hour", 1, pier.tick());
            is("the lot on the next truck", 'd', pier.stateOf(5));
            is("the first one has kept", 100.0f * 0.98f * 0.98f * 0.98f, pier.fresh(0));
        });
        says(TERMS, sentence, () -> {
            Fishpier pier = pierWithSoldLots(10);
            for (int truck = 0; truck < 4; truck++) {
                pier.addTruck(1, 100, false);
            }
            pier.load(0, 3);
            is("all of one hour, three of them empty", 4, pier.tick());
            is("the last truck's lot", 'd', pier.stateOf(0));
        });
    }

    private void moneyBack() {
        String sentence = "If the freshness of a lot is less than 70.0f at that moment, its buyer gets money back";
        String formula = "(That is, (int) ((float) paid * (70.0f - freshness) / 100.0f).)";
        says(TERMS, sentence, () -> {
            Fishpier above = pierDelivered(1000, 1000, 51, 5);
            is("the nearest above 70", true, above.fresh(0) >= 70.0f && above.fresh(0) < 70.002f);
            is("all is kept", 1000000, above.paidFor(0));
            is("no money back", 0, above.budget(0));
        });
        says(TERMS, sentence, () -> {
            Fishpier below = pierDelivered(1000, 1000, 47, 6);
            is("the nearest below 70", true, below.fresh(0) < 70.0f && below.fresh(0) > 69.99f);
            is("a little money back", 91, below.budget(0));
            is("the rest is kept", 999909, below.paidFor(0));
            is("income", 999909L, below.income());
            is("income by lots", 999909L, below.incomeByLots());
        });
        says(TERMS, sentence, () -> {
            Fishpier pier = pierDelivered(10, 50, 0, 18);
            tick(pier, 1);
            is("what is kept and what comes back", 500, pier.paidFor(0) + pier.budget(0));
            int kept = pier.paidFor(0);
            tick(pier, 30);
            is("it comes back once", kept, pier.paidFor(0));
        });
        says(TERMS, sentence, () -> {
            Fishpier pier = pierWithSoldLots(1000, 100, 10);
            pier.addTruck(60, 9999, false);
            for (int lot = 0; lot < 3; lot++) {
                pier.load(lot, 0);
            }
            is("what the buyer has left", 944500, pier.budget(0));
            tick(pier, 60);
            int back = 0;
            for (int paid : new int[] {50000, 5000, 500}) {
                back += (int) ((float) paid * (70.0f - pier.fresh(0)) / 100.0f);
            }
            is("it comes back for each lot, beside what was left", 944500 + back, pier.budget(0));
        });
        says(TERMS, sentence, () -> {
            Fishpier pier = pierWithLots(10, 10);
            addBuyer(pier, 500, 50);
            addBuyer(pier, 600, 40);
            pier.sell(0);
            pier.sell(1);
            pier.addTruck(60, 9999, false);
            pier.load(1, 0);
            tick(pier, 60);
            is("another buyer gets nothing", 0, pier.budget(0));
            is("the buyer gets it", 200 + (int) (400.0f * (70.0f - pier.fresh(1)) / 100.0f), pier.budget(1));
        });
        says(TERMS, formula, () -> {
            Fishpier pier = pierDelivered(289, 50, 0, 21);
            int inDoubles = (int) (14450.0 * (70.0 - (double) pier.fresh(0)) / 100.0);
            is("doubles would give", 660, inDoubles);
            is("floats give", 661, pier.budget(0));
        });
        says(TERMS, formula, () -> {
            Fishpier pier = pierDelivered(193, 834, 0, 18);
            is("money back of 160962 after 18 ticks", 783, pier.budget(0));
        });
        says(TERMS, formula, () -> {
            Fishpier pier = pierDelivered(1, 1, 0, 100);
            is("less than 1 is cut to 0", 0, pier.budget(0));
            is("all is kept", 1, pier.paidFor(0));
            Fishpier nothing = pierDelivered(10, 0, 0, 100);
            is("nothing of nothing", 0, nothing.budget(0));
        });
    }

    /** A lot that is sold for all of a budget, then loaded and delivered after so many ticks with and without ice. */
    private static Fishpier pierDelivered(int weight, int price, int ticksOnIce, int ticksWithout) {
        Fishpier pier = pierWithLots(weight);
        addBuyer(pier, weight * price, price);
        pier.setClock(price == 0 ? 1 : price, 1, 0);
        pier.sell(0);
        for (int i = 0; i < ticksOnIce; i++) {
            pier.ice(0, (weight + 9) / 10);
        }
        pier.addTruck(ticksOnIce + ticksWithout, 9999, true);
        pier.load(0, 0);
        tick(pier, ticksOnIce + ticksWithout);
        return pier;
    }

    private void buyersAndOffers() {
        says(TERMS, "At most 5 buyers are numbered from 0.", () -> {
            Fishpier pier = new Fishpier();
            is("the first", 0, pier.addBuyer(0));
            for (int buyer = 1; buyer < 4; buyer++) {
                pier.addBuyer(0);
            }
            is("the last", 4, pier.addBuyer(0));
            refuses("one more", pier, BAD_STATE, () -> pier.addBuyer(0));
        });
        says(TERMS, "A buyer has a budget and for each species a limit.", () -> {
            Fishpier pier = new Fishpier();
            pier.addBuyer(5);
            pier.addBuyer(6);
            pier.setLimit(1, 3, 7);
            is("another species", 0, pier.setLimit(1, 2, 1));
            is("another buyer", 0, pier.setLimit(0, 3, 1));
            is("the limit", 7, pier.setLimit(1, 3, 1));
            is("the budget", 6, pier.budget(1));
        });
        says(TERMS, "The offer of a buyer for a lot is its limit for the species", () -> {
            Fishpier pier = pierWithBoats(1);
            pier.addBuyer(0);
            for (int size = 0; size < 3; size++) {
                for (int species = 0; species < 4; species++) {
                    int lot = pier.land(0, species, size, 1, true);
                    pier.setLimit(0, species, 1000 + species);
                    is("size " + size + " of species " + species, (1000 + species) * (10 + size) / 10,
                            pier.offer(0, lot));
                }
            }
        });
        says(TERMS, "(That is, (int) ((double) (limit * (100 + 10 * size)) / 100.0 * (double) freshness / 100.0).)", () -> {
            Fishpier pier = pierWithBoats(1);
            pier.land(0, 0, 2, 10, true);
            pier.ice(0, 23);
            tick(pier, 62);
            addBuyer(pier, 0, 1536);
            addBuyer(pier, 0, 8704);
            is("the size after the division would give 746", 747, pier.offer(0, 0));
            is("one division at the end would give 4233", 4232, pier.offer(1, 0));
        });
        says(TERMS, "(That is, (int) ((double) (limit * (100 + 10 * size)) / 100.0 * (double) freshness / 100.0).)", () -> {
            Fishpier pier = pierWithLots(10);
            tick(pier, 2);
            addBuyer(pier, 0, 9899);
            is("floats would give 9507", 9506, pier.offer(0, 0));
        });
    }

    private void clockShows() {
        String sentence = "It shows the start, then, as long as this is not less than the reserve";
        says(TERMS, "The clock has a start, a step, and a reserve, at first 1000, 10 and 0.", () -> {
            Fishpier pier = pierWithLots(1);
            addBuyer(pier, 1000000, 9999);
            is("the start", 1000, pier.price(0));
            pier.setLimit(0, 0, 999);
            is("the step", 990, pier.price(0));
            pier.setLimit(0, 0, 0);
            is("the reserve", 0, pier.price(0));
        });
        says(TERMS, sentence, () -> {
            Fishpier pier = pierWithLots(1);
            addBuyer(pier, 1000000, 80);
            pier.setClock(100, 10, 80);
            checkPrice(pier, 0, 80);
            pier.setClock(100, 10, 81);
            checkNoPrice(pier, 0);
        });
        says(TERMS, sentence, () -> {
            Fishpier pier = pierWithLots(1);
            addBuyer(pier, 1000000, 4);
            pier.setClock(5, 10, 0);
            checkNoPrice(pier, 0);
            pier.setClock(5, 5, 0);
            checkPrice(pier, 0, 0);
            pier.setClock(5, 1, 0);
            checkPrice(pier, 0, 4);
            pier.setLimit(0, 0, 5);
            pier.setClock(5, 500, 5);
            checkPrice(pier, 0, 5);
        });
        says(TERMS, sentence, () -> {
            Fishpier pier = pierWithLots(1);
            pier.addBuyer(0);
            pier.setClock(9999, 1, 0);
            checkPrice(pier, 0, 0);
            pier.setClock(9999, 1, 1);
            checkNoPrice(pier, 0);
            pier.setClock(9999, 500, 0);
            checkNoPrice(pier, 0);
            pier.setLimit(0, 0, 499);
            pier.setClock(9999, 500, 499);
            checkNoPrice(pier, 0);
            addBuyer(pier, 499, 499);
            checkPrice(pier, 0, 499);
            pier.setClock(9999, 500, 500);
            checkNoPrice(pier, 0);
        });
    }

    private void checkPrice(Fishpier pier, int lot, int due) {
        is("price", due, pier.price(lot));
        is("priceByBuyers", due, pier.priceByBuyers(lot));
    }

    private void checkNoPrice(Fishpier pier, int lot) {
        refuses("price", pier, UNSUPPORTED, () -> pier.price(lot));
        refuses("priceByBuyers", pier, UNSUPPORTED, () -> pier.priceByBuyers(lot));
        refuses("sell", pier, UNSUPPORTED, () -> pier.sell(lot));
    }

    private void firstPriceAndItsBuyer() {
        String first = "The first price that it shows for which there is a buyer";
        String several = "Of several such buyers, the one with the greatest offer buys it";
        says(TERMS, first, () -> {
            Fishpier pier = pierWithLots(10);
            addBuyer(pier, 10000, 1000);
            checkPrice(pier, 0, 1000);
            pier.setLimit(0, 0, 999);
            checkPrice(pier, 0, 990);
        });
        says(TERMS, first, () -> {
            Fishpier pier = pierWithLots(10);
            addBuyer(pier, 9999, 1000);
            checkPrice(pier, 0, 990);
            addBuyer(pier, 10000, 1000);
            checkPrice(pier, 0, 1000);
        });
        says(TERMS, first, () -> {
            Fishpier pier = pierWithLots(2000);
            addBuyer(pier, 1999, 9999);
            pier.setClock(9999, 1, 0);
            checkPrice(pier, 0, 0);
            pier.setClock(9999, 1, 1);
            checkNoPrice(pier, 0);
            addBuyer(pier, 2000, 9999);
            checkPrice(pier, 0, 1);
            addBuyer(pier, 1000000, 9999);
            checkPrice(pier, 0, 500);
        });
        says(TERMS, several, () -> {
            Fishpier pier = pierWithLots(10, 10, 10);
            for (int limit : new int[] {500, 501, 502, 502, 501}) {
                addBuyer(pier, 5000, limit);
            }
            is("the greatest, the lowest number", 2, pier.sell(0));
            is("then the other greatest", 3, pier.sell(1));
            is("then of two others the lowest number", 1, pier.sell(2));
        });
        says(TERMS, several, () -> {
            Fishpier pier = pierWithLots(10);
            addBuyer(pier, 4999, 600);
            addBuyer(pier, 5000, 500);
            pier.setClock(500, 1, 500);
            is("the greatest cannot pay", 1, pier.sell(0));
        });
        says(TERMS, several, () -> {
            Fishpier pier = pierWithLots(10, 10);
            addBuyer(pier, 4990, 9999);
            addBuyer(pier, 5000, 500);
            is("the first price has one buyer", 1, pier.sell(0));
            is("the greatest offer comes at a lower price", 0, pier.sell(1));
            is("which is paid", 4900, pier.paidFor(1));
        });
    }

    private void paying() {
        says(TERMS, "The buyer pays the price times the weight out of the budget.", () -> {
            Fishpier pier = pierWithLots(7, 7);
            addBuyer(pier, 351, 59);
            addBuyer(pier, 351, 58);
            is("the buyer", 0, pier.sell(0));
            is("50 for each of 7 kilograms, not the offer", 1, pier.budget(0));
            is("the other keeps all", 351, pier.budget(1));
            is("paid", 350, pier.paidFor(0));
            is("the other lot is not paid", 0, pier.paidFor(1));
        });
        says(TERMS, "The buyer pays the price times the weight out of the budget.", () -> {
            Fishpier pier = pierWithLots(2000, 100);
            addBuyer(pier, 1000000, 9999);
            pier.setClock(500, 1, 0);
            pier.sell(0);
            is("all of the greatest budget", 0, pier.budget(0));
            pier.sell(1);
            is("nothing more", 0, pier.paidFor(1));
        });
        says(TERMS, "If the clock shows no such price, the lot is not sold.", () -> {
            Fishpier pier = pierWithLots(10);
            checkNoPrice(pier, 0);
            addBuyer(pier, 1000, 9);
            pier.setClock(20, 10, 10);
            checkNoPrice(pier, 0);
            is("it is for sale", 'f', pier.stateOf(0));
            refuses("it has no buyer", pier, NO_ELEMENT, () -> pier.buyerOf(0));
        });
    }

    private void trucks() {
        says(TERMS, "At most 4 trucks are numbered from 0.", () -> {
            Fishpier pier = new Fishpier();
            is("the first", 0, pier.addTruck(1, 100, false));
            pier.addTruck(1, 100, false);
            pier.addTruck(1, 100, false);
            is("the last", 3, pier.addTruck(1, 100, false));
            refuses("one more", pier, BAD_STATE, () -> pier.addTruck(2, 100, false));
            pier.tick();
            refuses("one more when all have left", pier, BAD_STATE, () -> pier.addTruck(2, 100, false));
        });
        says(TERMS, "A truck has an hour, which is a tick, a room in kilograms, and is open or closed.", () -> {
            Fishpier pier = pierWithSoldLots(10, 20);
            pier.addTruck(2, 100, false);
            pier.addTruck(1, 200, true);
            is("the second truck's room", 180, pier.load(1, 1));
            is("the first truck's room", 90, pier.load(0, 0));
            pier.tick();
            is("the second truck's hour", 'd', pier.stateOf(1));
            is("not the first truck's", 'l', pier.stateOf(0));
        });
        says(TERMS, "An open truck takes lots of both kinds, a closed one takes boxed lots alone.", () -> {
            Fishpier pier = pierWithSoldLots(10, 10);
            pier.sell(pier.land(0, 0, 0, 10, false));
            pier.addTruck(5, 100, false);
            pier.addTruck(5, 100, true);
            is("open, boxed", 90, pier.load(0, 0));
            is("closed, boxed", 90, pier.load(1, 1));
            refuses("closed, loose", pier, UNSUPPORTED, () -> pier.load(2, 1));
            is("open, loose", 80, pier.load(2, 0));
        });
        says(TERMS, "It takes at most 5 lots.", () -> {
            Fishpier pier = pierWithSoldLots(10, 10, 10, 10, 10, 10);
            pier.addTruck(5, 100, true);
            for (int lot = 0; lot < 5; lot++) {
                is("lot " + lot, 90 - 10 * lot, pier.load(lot, 0));
            }
            refuses("a sixth, though there is room", pier, BAD_STATE, () -> pier.load(5, 0));
        });
    }

    private void days() {
        says(TERMS, "Days are numbered from 0.", () -> {
            Fishpier pier = pierWithBoats(1);
            refuses("day 0 has not ended", pier, NO_ELEMENT, () -> pier.quotaAt(0, 0, 0));
            is("the second day", 1, pier.endDay());
            is("day 0 has ended", 9999, pier.quotaAt(0, 0, 0));
        });
        says(TERMS, "When a day ends, all quotas are written down as they are then.", () -> {
            Fishpier pier = new Fishpier();
            for (int boat = 0; boat < 6; boat++) {
                pier.addBoat(100 + boat, 200 + boat, 300 + boat, 400 + boat);
            }
            pier.land(5, 3, 0, 5, true);
            pier.endDay();
            pier.land(5, 3, 0, 100, true);
            pier.moveQuota(0, 1, 0, 100);
            pier.endDay();
            for (int boat = 0; boat < 6; boat++) {
                for (int species = 0; species < 4; species++) {
                    int given = (species + 1) * 100 + boat;
                    is("day 0, boat " + boat + ", species " + species, boat == 5 && species == 3 ? given - 5 : given,
                            pier.quotaAt(boat, species, 0));
                }
            }
            is("day 1, landed", 300, pier.quotaAt(5, 3, 1));
            is("day 1, moved away", 0, pier.quotaAt(0, 0, 1));
            is("day 1, moved here", 201, pier.quotaAt(1, 0, 1));
        });
    }
}
