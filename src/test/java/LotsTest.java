import java.util.NoSuchElementException;

/** Promises 9 to 17: what lots are, ice, ticks and time. */
public final class LotsTest {
    private static final Class<IllegalArgumentException> BAD_ARGUMENT = IllegalArgumentException.class;
    private static final Class<IllegalStateException> BAD_STATE = IllegalStateException.class;
    private static final Class<NoSuchElementException> NO_ELEMENT = NoSuchElementException.class;

    private static final Checks CHECKS = new Checks("LotsTest");

    private LotsTest() {
    }

    public static void main(String[] args) {
        asksRefuseWrongLots();
        weightsAreKept();
        statesFollowTheLot();
        freshnessAndItsBits();
        icingAddsUp();
        icingRefusesWrongNumbers();
        iceLastsWholeTicks();
        iceIsUsedOnlyWhenItIsEnough();
        lotsSpoilBelowThirty();
        lotsThatLeftTheClockDoNotSpoil();
        deliveredAndSpoiledLotsKeep();
        timeCountsTicks();
        CHECKS.end();
    }

    private static Fishpier pierWithLots(int... weights) {
        Fishpier pier = new Fishpier();
        pier.addBoat(9999, 9999, 9999, 9999);
        for (int weight : weights) {
            pier.land(0, 0, 0, weight, true);
        }
        return pier;
    }

    private static void tick(Fishpier pier, int times) {
        for (int i = 0; i < times; i++) {
            pier.tick();
        }
    }

    // Promises 9 to 15, wrong inputs

    private static void asksRefuseWrongLots() {
        Fishpier pier = pierWithLots(10, 20);
        for (int wrong : new int[] {-1, 2, 19, 20, 21, Integer.MIN_VALUE, Integer.MAX_VALUE}) {
            CHECKS.fails("weight " + wrong, NO_ELEMENT, () -> pier.weight(wrong));
            CHECKS.fails("stateOf " + wrong, NO_ELEMENT, () -> pier.stateOf(wrong));
            CHECKS.fails("fresh " + wrong, NO_ELEMENT, () -> pier.fresh(wrong));
            CHECKS.fails("freshBits " + wrong, NO_ELEMENT, () -> pier.freshBits(wrong));
            CHECKS.fails("iceOn " + wrong, NO_ELEMENT, () -> pier.iceOn(wrong));
            CHECKS.fails("iceLasts " + wrong, NO_ELEMENT, () -> pier.iceLasts(wrong));
            CHECKS.failsAndKeeps("ice " + wrong, pier, NO_ELEMENT, () -> pier.ice(wrong, 1));
            CHECKS.failsAndKeeps("ice, wrong ice " + wrong, pier, NO_ELEMENT, () -> pier.ice(wrong, 0));
        }
    }

    // Promise 9

    private static void weightsAreKept() {
        Fishpier pier = pierWithLots(1, 2000, 37);
        tick(pier, 70);
        CHECKS.is("weight 0", 1, pier.weight(0));
        CHECKS.is("weight 1", 2000, pier.weight(1));
        CHECKS.is("weight 2", 37, pier.weight(2));
    }

    // Promise 10

    private static void statesFollowTheLot() {
        Fishpier pier = pierWithLots(10, 10);
        pier.addBuyer(1000);
        pier.setLimit(0, 0, 1);
        pier.addTruck(1, 100, false);
        CHECKS.is("for sale", 'f', pier.stateOf(0));
        pier.sell(0);
        CHECKS.is("sold", 's', pier.stateOf(0));
        pier.load(0, 0);
        CHECKS.is("loaded", 'l', pier.stateOf(0));
        pier.tick();
        CHECKS.is("delivered", 'd', pier.stateOf(0));
        CHECKS.is("the other is for sale", 'f', pier.stateOf(1));
        tick(pier, 59);
        CHECKS.is("spoiled", 'x', pier.stateOf(1));
    }

    // Promises 11 and 12

    private static void freshnessAndItsBits() {
        Fishpier pier = pierWithLots(10, 10);
        pier.addBuyer(0);
        pier.sell(0);
        pier.sell(1);
        pier.ice(1, 300);
        CHECKS.is("bits of 100", 0x42C80000, pier.freshBits(0));
        float loose = 100.0f;
        float iced = 100.0f;
        for (int tick = 0; tick < 400; tick++) {
            pier.tick();
            loose = loose * 0.98f;
            iced = tick < 300 ? iced * 0.995f : iced * 0.98f;
            CHECKS.is("freshness without ice", loose, pier.fresh(0));
            CHECKS.is("bits without ice", Float.floatToIntBits(loose), pier.freshBits(0));
            CHECKS.is("freshness with ice", iced, pier.fresh(1));
            CHECKS.is("bits with ice", Float.floatToIntBits(iced), pier.freshBits(1));
        }
        CHECKS.is("bits fall below 1.0f", true, pier.freshBits(0) < Float.floatToIntBits(1.0f));
    }

    // Promise 13

    private static void icingAddsUp() {
        Fishpier pier = pierWithLots(10, 10);
        CHECKS.is("least ice", 1, pier.ice(0, 1));
        CHECKS.is("greatest ice", 1000, pier.ice(0, 999));
        CHECKS.is("more than 999 in all", 1999, pier.ice(0, 999));
        CHECKS.is("iceOn", 1999, pier.iceOn(0));
        CHECKS.is("the other has none", 0, pier.iceOn(1));
        pier.addBuyer(1000);
        pier.setLimit(0, 0, 1);
        pier.addTruck(1, 100, false);
        pier.sell(0);
        CHECKS.is("ice on a sold lot", 2000, pier.ice(0, 1));
        pier.load(0, 0);
        CHECKS.is("ice on a loaded lot", 2001, pier.ice(0, 1));
        pier.tick();
        CHECKS.failsAndKeeps("ice on a delivered lot", pier, BAD_STATE, () -> pier.ice(0, 1));
        CHECKS.failsAndKeeps("wrong ice on a delivered lot", pier, BAD_ARGUMENT, () -> pier.ice(0, 0));
        tick(pier, 59);
        CHECKS.failsAndKeeps("ice on a spoiled lot", pier, BAD_STATE, () -> pier.ice(1, 999));
        CHECKS.failsAndKeeps("wrong ice on a spoiled lot", pier, BAD_ARGUMENT, () -> pier.ice(1, 1000));
    }

    private static void icingRefusesWrongNumbers() {
        Fishpier pier = pierWithLots(10);
        for (int wrong : new int[] {-1, 0, 1000, Integer.MIN_VALUE, Integer.MAX_VALUE}) {
            CHECKS.failsAndKeeps("ice of " + wrong, pier, BAD_ARGUMENT, () -> pier.ice(0, wrong));
        }
    }

    // Promises 14 and 15

    private static void iceLastsWholeTicks() {
        Fishpier pier = pierWithLots(1, 10, 11, 2000, 95);
        CHECKS.is("without ice", 0, pier.iceLasts(0));
        pier.ice(0, 3);
        pier.ice(1, 3);
        pier.ice(2, 3);
        pier.ice(3, 199);
        pier.ice(4, 25);
        CHECKS.is("1 kilogram needs 1", 3, pier.iceLasts(0));
        CHECKS.is("10 kilograms need 1", 3, pier.iceLasts(1));
        CHECKS.is("11 kilograms need 2", 1, pier.iceLasts(2));
        CHECKS.is("2000 kilograms need 200", 0, pier.iceLasts(3));
        CHECKS.is("95 kilograms need 10", 2, pier.iceLasts(4));
        pier.ice(3, 1);
        CHECKS.is("200 are enough", 1, pier.iceLasts(3));
        pier.tick();
        CHECKS.is("a tick less", 2, pier.iceLasts(0));
        CHECKS.is("none for 11 kilograms", 0, pier.iceLasts(2));
        CHECKS.is("none for 2000 kilograms", 0, pier.iceLasts(3));
        CHECKS.is("one for 95 kilograms", 1, pier.iceLasts(4));
    }

    // Promises 14 and 16

    private static void iceIsUsedOnlyWhenItIsEnough() {
        Fishpier pier = pierWithLots(11, 30, 1);
        pier.ice(0, 3);
        pier.ice(1, 2);
        CHECKS.is("no truck leaves", 0, pier.tick());
        CHECKS.is("2 of 3 are used up", 1, pier.iceOn(0));
        CHECKS.is("2 where 3 are needed are kept", 2, pier.iceOn(1));
        CHECKS.is("no ice is used where none is", 0, pier.iceOn(2));
        CHECKS.is("iced", 100.0f * 0.995f, pier.fresh(0));
        CHECKS.is("with too little ice", 98.0f, pier.fresh(1));
        CHECKS.is("without ice", 98.0f, pier.fresh(2));
        pier.tick();
        CHECKS.is("the last one is kept", 1, pier.iceOn(0));
        CHECKS.is("iced, then not", 100.0f * 0.995f * 0.98f, pier.fresh(0));
        pier.ice(0, 1);
        pier.tick();
        CHECKS.is("the kept one counts again", 0, pier.iceOn(0));
        CHECKS.is("iced once more", 100.0f * 0.995f * 0.98f * 0.995f, pier.fresh(0));
    }

    // Promise 16

    private static void lotsSpoilBelowThirty() {
        Fishpier pier = pierWithLots(10, 10);
        pier.ice(1, 500);
        float freshness = 100.0f;
        int ticks = 0;
        while (freshness >= 30.0f) {
            CHECKS.is("for sale at " + freshness, 'f', pier.stateOf(0));
            pier.tick();
            freshness = freshness * 0.98f;
            ticks++;
        }
        CHECKS.is("ticks without ice", 60, ticks);
        CHECKS.is("spoiled", 'x', pier.stateOf(0));
        CHECKS.is("the iced one is for sale", 'f', pier.stateOf(1));
        tick(pier, 240 - ticks);
        CHECKS.is("the iced one is for sale after 240", 'f', pier.stateOf(1));
        pier.tick();
        CHECKS.is("the iced one is spoiled after 241", 'x', pier.stateOf(1));
        CHECKS.is("the iced one keeps the ice that is left", 259, pier.iceOn(1));
    }

    private static void lotsThatLeftTheClockDoNotSpoil() {
        Fishpier pier = pierWithLots(10, 10);
        pier.addBuyer(0);
        pier.addTruck(200, 100, false);
        pier.sell(0);
        pier.sell(1);
        pier.load(1, 0);
        tick(pier, 100);
        CHECKS.is("sold stays sold", 's', pier.stateOf(0));
        CHECKS.is("loaded stays loaded", 'l', pier.stateOf(1));
        CHECKS.is("both are old", true, pier.fresh(0) < 30.0f && pier.fresh(1) < 30.0f);
        CHECKS.is("nothing is spoiled", 0, pier.spoiled());
    }

    private static void deliveredAndSpoiledLotsKeep() {
        Fishpier pier = pierWithLots(10, 10);
        pier.addBuyer(0);
        pier.sell(0);
        pier.ice(0, 5);
        pier.addTruck(1, 100, false);
        pier.load(0, 0);
        CHECKS.is("a truck leaves", 1, pier.tick());
        tick(pier, 58);
        pier.ice(1, 7);
        tick(pier, 60);
        CHECKS.is("delivered keeps its freshness", 99.5f, pier.fresh(0));
        CHECKS.is("delivered keeps its ice", 4, pier.iceOn(0));
        CHECKS.is("spoiled keeps its ice", 4, pier.iceOn(1));
        CHECKS.is("spoiled", 'x', pier.stateOf(1));
        String before = Snapshot.of(pier).replaceFirst("time = \\d+", "");
        tick(pier, 3);
        CHECKS.is("nothing changes any more", before, Snapshot.of(pier).replaceFirst("time = \\d+", ""));
    }

    // Promise 17

    private static void timeCountsTicks() {
        Fishpier pier = new Fishpier();
        for (int time = 0; time < 250; time++) {
            CHECKS.is("time", time, pier.time());
            CHECKS.is("tick without trucks", 0, pier.tick());
        }
        pier.endDay();
        CHECKS.is("a day keeps the time", 250, pier.time());
    }
}
