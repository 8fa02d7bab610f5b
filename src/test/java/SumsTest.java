import java.lang.reflect.Field;

/** Promises 31 to 37: income, sums, shares, means and soundness. */
public final class SumsTest {
    private static final Class<ArithmeticException> NO_DIVISOR = ArithmeticException.class;

    private static final Checks CHECKS = new Checks("SumsTest");

    private SumsTest() {
    }

    public static void main(String[] args) throws ReflectiveOperationException {
        incomeAddsUp();
        spoiledWeighs();
        sharesOfWhatWasSold();
        meansOfWhatWasSold();
        bitsOfTheMean();
        soundThroughALife();
        unsoundWhenASumIsOff();
        CHECKS.end();
    }

    private static Fishpier pierWithBuyer(int limit) {
        Fishpier pier = new Fishpier();
        pier.addBoat(9999, 9999, 9999, 9999);
        pier.addBuyer(1000000);
        pier.setLimit(0, 0, limit);
        return pier;
    }

    private static void tick(Fishpier pier, int times) {
        for (int i = 0; i < times; i++) {
            pier.tick();
        }
    }

    // Promises 31 and 32

    private static void incomeAddsUp() {
        Fishpier pier = pierWithBuyer(50);
        pier.land(0, 0, 0, 10, true);
        CHECKS.is("nothing yet", 0L, pier.income());
        CHECKS.is("nothing yet by lots", 0L, pier.incomeByLots());
        pier.sell(0);
        CHECKS.is("one sale", 500L, pier.income());
        CHECKS.is("one sale by lots", 500L, pier.incomeByLots());
        pier.sell(pier.land(0, 0, 0, 20, true));
        CHECKS.is("two sales", 1500L, pier.income());
        CHECKS.is("two sales by lots", 1500L, pier.incomeByLots());
        pier.addTruck(50, 100, false);
        pier.load(1, 0);
        tick(pier, 50);
        long back = (int) (1000.0f * (70.0f - pier.fresh(1)) / 100.0f);
        CHECKS.is("what is given back is gone", 1500L - back, pier.income());
        CHECKS.is("and gone by lots", 1500L - back, pier.incomeByLots());
    }

    // Promise 33

    private static void spoiledWeighs() {
        Fishpier pier = pierWithBuyer(50);
        pier.land(0, 0, 0, 10, true);
        pier.land(0, 1, 0, 20, true);
        pier.land(0, 2, 0, 40, true);
        pier.land(0, 3, 0, 80, true);
        pier.sell(0);
        pier.ice(2, 999);
        tick(pier, 59);
        CHECKS.is("none is spoiled yet", 0, pier.spoiled());
        pier.tick();
        CHECKS.is("two are spoiled", 100, pier.spoiled());
        tick(pier, 181);
        CHECKS.is("the iced one too", 140, pier.spoiled());
        tick(pier, 100);
        CHECKS.is("the sold one never", 140, pier.spoiled());
    }

    // Promise 34

    private static void sharesOfWhatWasSold() {
        Fishpier pier = pierWithBuyer(50);
        CHECKS.fails("share of no lots", NO_DIVISOR, () -> pier.soldShare());
        pier.land(0, 0, 0, 7, true);
        CHECKS.is("share of nothing sold", 0.0f, pier.soldShare());
        pier.land(0, 0, 0, 11, true);
        pier.land(0, 1, 0, 23, true);
        pier.sell(0);
        CHECKS.is("share with a sold lot", 7.0f / 41.0f, pier.soldShare());
        pier.sell(1);
        pier.addTruck(1, 100, false);
        pier.load(1, 0);
        CHECKS.is("share with a loaded lot", 18.0f / 41.0f, pier.soldShare());
        pier.tick();
        CHECKS.is("share with a delivered lot", 18.0f / 41.0f, pier.soldShare());
        tick(pier, 60);
        CHECKS.is("a spoiled lot counts among all", 18.0f / 41.0f, pier.soldShare());
    }

    // Promise 35

    private static void meansOfWhatWasSold() {
        Fishpier pier = pierWithBuyer(50);
        CHECKS.fails("mean of no lots", NO_DIVISOR, () -> pier.meanPrice());
        CHECKS.fails("bits of no lots", NO_DIVISOR, () -> pier.meanBits());
        pier.land(0, 0, 0, 3, true);
        pier.land(0, 0, 0, 7, true);
        pier.land(0, 0, 0, 9, true);
        CHECKS.fails("mean of nothing sold", NO_DIVISOR, () -> pier.meanPrice());
        CHECKS.fails("bits of nothing sold", NO_DIVISOR, () -> pier.meanBits());
        pier.sell(0);
        CHECKS.is("mean of one", 50.0, pier.meanPrice());
        pier.setLimit(0, 0, 33);
        pier.sell(1);
        CHECKS.is("mean of two", 360.0 / 10.0, pier.meanPrice());
        pier.addTruck(55, 100, false);
        pier.load(0, 0);
        tick(pier, 60);
        int back = (int) (150.0f * (70.0f - pier.fresh(0)) / 100.0f);
        CHECKS.is("mean after money went back", (double) (360 - back) / 10.0, pier.meanPrice());
        checkBits("bits after money went back", pier);
    }

    // Promise 36

    private static void bitsOfTheMean() {
        Fishpier pier = pierWithBuyer(0);
        pier.land(0, 0, 0, 2000, true);
        pier.sell(0);
        CHECKS.is("mean of nothing paid", 0.0, pier.meanPrice());
        CHECKS.is("bits of nothing paid", 0L, pier.meanBits());
        int[] limits = {1, 7, 333, 9999, 2, 1000, 129, 4096, 50, 31};
        pier.setClock(9999, 1, 0);
        for (int limit : limits) {
            pier.setLimit(0, 0, limit);
            pier.sell(pier.land(0, 0, 0, 1 + limit % 5, true));
            checkBits("bits after a sale at " + limit, pier);
        }
        Fishpier half = pierWithBuyer(0);
        half.sell(half.land(0, 0, 0, 2, true));
        half.setClock(1, 1, 1);
        half.setLimit(0, 0, 1);
        half.sell(half.land(0, 0, 0, 2, true));
        CHECKS.is("mean of a half", 0.5, half.meanPrice());
        checkBits("bits of a half", half);
        Fishpier other = pierWithBuyer(9999);
        other.setClock(9999, 1, 9999);
        other.sell(other.land(0, 0, 0, 1, true));
        CHECKS.is("bits of the greatest mean", Double.doubleToLongBits(9999.0), other.meanBits());
        checkBits("the greatest mean", other);
    }

    private static void checkBits(String what, Fishpier pier) {
        CHECKS.is(what, Double.doubleToLongBits(pier.meanPrice()), pier.meanBits());
    }

    // Promise 37

    private static void soundThroughALife() {
        Fishpier pier = pierWithBuyer(50);
        CHECKS.is("sound with a boat", true, pier.isSound());
        pier.addBoat(30, 30, 30, 30);
        pier.land(1, 0, 0, 40, true);
        pier.land(0, 0, 1, 50, false);
        CHECKS.is("sound with lots", true, pier.isSound());
        pier.moveQuota(0, 1, 0, 100);
        pier.land(1, 0, 2, 60, true);
        CHECKS.is("sound with moved quotas", true, pier.isSound());
        pier.sell(0);
        pier.addTruck(50, 100, false);
        pier.load(0, 0);
        tick(pier, 55);
        CHECKS.is("sound after money went back", true, pier.isSound());
        pier.setClock(9999, 3, 9998);
        CHECKS.is("sound when nothing would be sold", true, pier.isSound());
        tick(pier, 20);
        CHECKS.is("sound when all is spoiled", true, pier.isSound());
    }

    /** What no call can bring about is written into the private fields, so that a sum is off. */
    private static void unsoundWhenASumIsOff() throws ReflectiveOperationException {
        Fishpier pier = pierWithBuyer(50);
        pier.addBoat(30, 30, 30, 30);
        pier.land(1, 2, 0, 10, true);
        pier.sell(pier.land(1, 0, 0, 10, true));
        Field takings = open(Fishpier.class, "takings");
        takings.setLong(pier, 501L);
        CHECKS.is("unsound when the income is off", false, pier.isSound());
        takings.setLong(pier, 500L);
        CHECKS.is("sound again", true, pier.isSound());
        Object[] boats = (Object[]) open(Fishpier.class, "boats").get(pier);
        int[] left = (int[]) open(boats[1].getClass(), "left").get(boats[1]);
        for (int species = 0; species < 4; species++) {
            left[species]--;
            CHECKS.is("unsound when species " + species + " is off", false, pier.isSound());
            left[species]++;
        }
        spoilTheClock(pier);
    }

    /** With a reserve above the start the one way shows no price at all, and the other one the start. */
    private static void spoilTheClock(Fishpier pier) throws ReflectiveOperationException {
        Field reserve = open(Fishpier.class, "clockReserve");
        pier.setLimit(0, 2, 9999);
        reserve.setInt(pier, 1001);
        CHECKS.is("unsound when the prices differ", false, pier.isSound());
        reserve.setInt(pier, 0);
        CHECKS.is("sound with the clock as it was", true, pier.isSound());
    }

    private static Field open(Class<?> owner, String name) throws ReflectiveOperationException {
        Field field = owner.getDeclaredField(name);
        field.setAccessible(true);
        return field;
    }
}
