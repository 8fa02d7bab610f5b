import java.lang.reflect.Field;

/** Promises 31 to 37, sentence by sentence: sums, shares, means and soundness. */
final class SumSentences extends SentenceGroup {
    SumSentences(Sentences sentences, Checks checks) {
        super(sentences, checks);
    }

    @Override
    void tell() {
        income("Promise 31", Fishpier::income);
        income("Promise 32", Fishpier::incomeByLots);
        spoiled();
        soldShare();
        meanPrice();
        meanBits();
        isSound();
        isSoundAsksForPrices();
    }

    /** A call that answers a sum of money. */
    private interface Sum {
        long of(Fishpier pier);
    }

    // Promises 31 and 32

    private void income(String promise, Sum sum) {
        says(promise, "Returns", () -> {
            is("there is nothing", 0L, sum.of(new Fishpier()));
            Fishpier pier = pierWithLots(10);
            addBuyer(pier, 1000000, 9);
            is("nothing is sold", 0L, sum.of(pier));
            pier.sell(0);
            is("it is sold for nothing", 0L, sum.of(pier));
        });
        says(promise, "Returns", () -> {
            Fishpier pier = pierWithLots(1000, 1000, 1000, 1000, 1000);
            for (int buyer = 0; buyer < 5; buyer++) {
                addBuyer(pier, 1000000, 1000);
                pier.sell(buyer);
            }
            is("the greatest there can be", 5000000L, sum.of(pier));
        });
        says(promise, "Returns", () -> {
            Fishpier pier = pierWithSoldLots(10, 20);
            pier.addTruck(40, 100, false);
            pier.load(1, 0);
            tick(pier, 39);
            is("nothing is given back before the hour", 1500L, sum.of(pier));
            pier.tick();
            is("what was given back is gone", 1500L - (int) (1000.0f * (70.0f - pier.fresh(1)) / 100.0f), sum.of(pier));
        });
    }

    // Promise 33

    private void spoiled() {
        says("Promise 33", "Returns", () -> {
            is("there is nothing", 0, new Fishpier().spoiled());
            Fishpier pier = pierWithLotsInAllStates();
            is("one of five", 10, pier.spoiled());
        });
        says("Promise 33", "Returns", () -> {
            Fishpier pier = pierWithBoats(6);
            for (int lot = 0; lot < 20; lot++) {
                pier.land(lot % 6, 0, 0, 2000, true);
            }
            tick(pier, 59);
            is("none is spoiled yet", 0, pier.spoiled());
            pier.tick();
            is("the greatest there can be", 40000, pier.spoiled());
        });
    }

    // Promise 34

    private void soldShare() {
        says("Promise 34", "Returns", () -> {
            Fishpier pier = pierWithLots(10, 20);
            addBuyer(pier, 1000000, 50);
            is("none is sold", 0.0f, pier.soldShare());
            pier.sell(0);
            is("a third", 10.0f / 30.0f, pier.soldShare());
            pier.sell(1);
            is("all are sold", 1.0f, pier.soldShare());
        });
        says("Promise 34", "Returns", () -> {
            Fishpier pier = pierWithLotsInAllStates();
            is("sold, loaded and delivered of five", 30.0f / 50.0f, pier.soldShare());
        });
        says("Promise 34", "Returns", () -> {
            Fishpier pier = pierWithBoats(6);
            pier.addBuyer(0);
            pier.sell(pier.land(0, 0, 0, 1, true));
            for (int lot = 1; lot < 20; lot++) {
                pier.land(lot % 6, 0, 0, 2000, true);
            }
            is("the least but 0", 1.0f / 38001.0f, pier.soldShare());
        });
        says("Promise 34", THROWS_NO_DIVISOR, () -> {
            Fishpier pier = new Fishpier();
            refuses("there is nothing", pier, NO_DIVISOR, pier::soldShare);
            pier.addBoat(1, 1, 1, 1);
            pier.addBuyer(1);
            pier.addTruck(1, 100, false);
            refuses("there are no lots", pier, NO_DIVISOR, pier::soldShare);
            pier.land(0, 0, 0, 1, true);
            is("there is one", 0.0f, pier.soldShare());
        });
    }

    // Promises 35 and 36

    private void meanPrice() {
        says("Promise 35", "Returns", () -> {
            Fishpier pier = pierWithLots(10);
            addBuyer(pier, 1000000, 9);
            pier.sell(0);
            is("sold for nothing", 0.0, pier.meanPrice());
        });
        says("Promise 35", "Returns", () -> {
            Fishpier pier = pierWithLotsInAllStates();
            is("sold, loaded and delivered", (double) pier.income() / 30.0, pier.meanPrice());
        });
        says("Promise 35", "Returns", () -> {
            Fishpier pier = pierWithLots(1, 2);
            addBuyer(pier, 1000000, 9999);
            pier.setClock(9999, 1, 0);
            pier.sell(0);
            is("the greatest there can be", 9999.0, pier.meanPrice());
            pier.setLimit(0, 0, 1);
            pier.sell(1);
            is("a part of three", 10001.0 / 3.0, pier.meanPrice());
        });
        says("Promise 35", "Returns", () -> is("the least but 0", 1.0 / 38001.0, pierWithTheLeastMean().meanPrice()));
        says("Promise 35", THROWS_NO_DIVISOR, () -> refusesMeans(Fishpier::meanPrice));
    }

    private void meanBits() {
        says("Promise 36", "Returns", () -> {
            Fishpier pier = pierWithLots(10);
            addBuyer(pier, 1000000, 9);
            pier.sell(0);
            is("bits of 0.0", 0L, pier.meanBits());
        });
        says("Promise 36", "Returns", () -> {
            for (int price = 1; price <= 9999; price++) {
                Fishpier pier = pierWithLots(1);
                addBuyer(pier, 10000, price);
                pier.setClock(price, 1, 0);
                pier.sell(0);
                is("bits of " + price, Double.doubleToLongBits(price), pier.meanBits());
            }
        });
        says("Promise 36", "Returns", () -> {
            for (int kilograms = 1; kilograms <= 2000; kilograms++) {
                Fishpier pier = pierWithLots(kilograms, 1);
                pier.addBuyer(1);
                pier.sell(0);
                pier.setLimit(0, 0, 1);
                pier.setClock(1, 1, 1);
                pier.sell(1);
                is("bits of 1 by " + (kilograms + 1), Double.doubleToLongBits(1.0 / (kilograms + 1)), pier.meanBits());
            }
        });
        says("Promise 36", "Returns", () -> is("bits of the least but 0", Double.doubleToLongBits(1.0 / 38001.0),
                pierWithTheLeastMean().meanBits()));
        says("Promise 36", THROWS_NO_DIVISOR, () -> refusesMeans(Fishpier::meanBits));
    }

    /** 38001 kilograms are sold, one of them for 1, all others for nothing. */
    private static Fishpier pierWithTheLeastMean() {
        Fishpier pier = pierWithBoats(6);
        pier.addBuyer(1);
        for (int lot = 1; lot < 20; lot++) {
            pier.sell(pier.land(lot % 6, 0, 0, 2000, true));
        }
        pier.setLimit(0, 0, 1);
        pier.setClock(1, 1, 1);
        pier.sell(pier.land(0, 0, 0, 1, true));
        return pier;
    }

    private interface Mean {
        void of(Fishpier pier);
    }

    private void refusesMeans(Mean mean) {
        Fishpier empty = new Fishpier();
        refuses("there is nothing", empty, NO_DIVISOR, () -> mean.of(empty));
        Fishpier pier = pierWithLots(10, 10);
        refuses("none was sold", pier, NO_DIVISOR, () -> mean.of(pier));
        pier.addBuyer(0);
        tick(pier, 60);
        refuses("all are spoiled", pier, NO_DIVISOR, () -> mean.of(pier));
        pier.sell(pier.land(0, 0, 0, 1, true));
        keeps("one was sold", pier, () -> mean.of(pier));
    }

    // Promise 37

    private void isSound() {
        says("Promise 37", "Returns", () -> is("there is nothing", true, new Fishpier().isSound()));
        says("Promise 37", "Returns", () -> is("in all states", true, pierWithLotsInAllStates().isSound()));
        says("Promise 37", "Returns", () -> {
            Fishpier pier = pierWithBoats(6);
            for (int lot = 0; lot < 20; lot++) {
                pier.land(lot % 2 == 0 ? 0 : 5, lot % 4, lot % 3, 2000, lot % 2 == 0);
            }
            for (int boat = 1; boat < 6; boat++) {
                pier.moveQuota(boat, boat - 1, 2, boat);
            }
            for (int buyer = 0; buyer < 5; buyer++) {
                addBuyer(pier, 1000000 >> buyer, 9999 >> buyer);
            }
            is("no room for more", true, pier.isSound());
            pier.setClock(9999, 1, 0);
            is("the longest fall", true, pier.isSound());
        });
        says("Promise 37", "Returns", () -> {
            Fishpier pier = pierWithLots(10);
            Field takings = field(Fishpier.class, "takings");
            set(takings, pier, 1);
            is("the income is one too great", false, pier.isSound());
            set(takings, pier, -1);
            is("the income is one too small", false, pier.isSound());
            set(takings, pier, 0);
            is("the income agrees", true, pier.isSound());
        });
        says("Promise 37", "Returns", () -> {
            Fishpier pier = pierWithBoats(6);
            Object[] boats = (Object[]) get(field(Fishpier.class, "boats"), pier);
            for (int boat = 0; boat < 6; boat += 5) {
                int[] left = (int[]) get(field(boats[boat].getClass(), "left"), boats[boat]);
                for (int species = 0; species < 4; species++) {
                    left[species]++;
                    is("the quota of boat " + boat + " is one too great", false, pier.isSound());
                    left[species]--;
                }
            }
            is("the quotas agree", true, pier.isSound());
        });
    }

    /** A reserve above the start, which setClock refuses, lets one way of the price see the start and the other not. */
    private void isSoundAsksForPrices() {
        says("Promise 37", "Returns", () -> {
            Fishpier pier = pierWithLotsInAllStates();
            pier.setLimit(0, 0, 9999);
            set(field(Fishpier.class, "clockReserve"), pier, 1001);
            is("the price of the lot for sale differs", false, pier.isSound());
            set(field(Fishpier.class, "clockReserve"), pier, 0);
            is("it agrees", true, pier.isSound());
            pier.sell(0);
            set(field(Fishpier.class, "clockReserve"), pier, 1001);
            is("no lot is for sale", true, pier.isSound());
        });
    }

    /** No call can bring a sum out of order, so that a field has to. */
    private static Field field(Class<?> owner, String name) {
        try {
            Field field = owner.getDeclaredField(name);
            field.setAccessible(true);
            return field;
        } catch (ReflectiveOperationException missing) {
            throw new AssertionError(name, missing);
        }
    }

    private static void set(Field field, Object owner, int value) {
        try {
            if (field.getType() == long.class) {
                field.setLong(owner, value);
            } else {
                field.setInt(owner, value);
            }
        } catch (ReflectiveOperationException closed) {
            throw new AssertionError(field.getName(), closed);
        }
    }

    private static Object get(Field field, Object owner) {
        try {
            return field.get(owner);
        } catch (ReflectiveOperationException closed) {
            throw new AssertionError(field.getName(), closed);
        }
    }
}
