import java.util.NoSuchElementException;

/** Promises 28 to 30, and 16 as far as trucks leave: trucks, loading and delivery. */
public final class TrucksTest {
    private static final Class<IndexOutOfBoundsException> NO_INDEX = IndexOutOfBoundsException.class;
    private static final Class<IllegalArgumentException> BAD_ARGUMENT = IllegalArgumentException.class;
    private static final Class<IllegalStateException> BAD_STATE = IllegalStateException.class;
    private static final Class<UnsupportedOperationException> UNSUPPORTED = UnsupportedOperationException.class;
    private static final Class<NoSuchElementException> NO_ELEMENT = NoSuchElementException.class;

    private static final Checks CHECKS = new Checks("TrucksTest");

    private TrucksTest() {
    }

    public static void main(String[] args) {
        trucksAreNumberedUpToFour();
        trucksRefuseWrongNumbers();
        loadingTakesRoom();
        loadingRefusesStates();
        loadingRefusesFullTrucks();
        closedTrucksTakeBoxes();
        loadingThrowsTheFirstThatApplies();
        lotsOnTrucks();
        trucksLeaveOnTheirHour();
        oldFishCostsMoney();
        freshFishCostsNone();
        CHECKS.end();
    }

    /** A pier with a rich buyer and boxed lots of these weights, all of them sold at 50. */
    private static Fishpier pierWithSoldLots(int... weights) {
        Fishpier pier = new Fishpier();
        pier.addBoat(9999, 9999, 9999, 9999);
        pier.addBuyer(1000000);
        pier.setLimit(0, 0, 50);
        for (int weight : weights) {
            pier.sell(pier.land(0, 0, 0, weight, true));
        }
        return pier;
    }

    private static int tick(Fishpier pier, int times) {
        int left = 0;
        for (int i = 0; i < times; i++) {
            left += pier.tick();
        }
        return left;
    }

    // Promise 28

    private static void trucksAreNumberedUpToFour() {
        Fishpier pier = new Fishpier();
        CHECKS.is("least hour and room", 0, pier.addTruck(1, 100, false));
        CHECKS.is("greatest hour and room", 1, pier.addTruck(1000, 9999, true));
        pier.tick();
        CHECKS.is("after a tick", 2, pier.addTruck(2, 100, true));
        CHECKS.is("the last one", 3, pier.addTruck(2, 100, true));
        CHECKS.failsAndKeeps("fifth truck", pier, BAD_STATE, () -> pier.addTruck(2, 100, true));
        CHECKS.failsAndKeeps("fifth truck, wrong hour", pier, BAD_ARGUMENT, () -> pier.addTruck(1, 100, true));
        CHECKS.is("both of the next hour leave", 2, pier.tick());
    }

    private static void trucksRefuseWrongNumbers() {
        Fishpier pier = new Fishpier();
        for (int wrong : new int[] {-1, 0, 1001, Integer.MIN_VALUE, Integer.MAX_VALUE}) {
            CHECKS.failsAndKeeps("hour " + wrong, pier, BAD_ARGUMENT, () -> pier.addTruck(wrong, 100, false));
        }
        for (int wrong : new int[] {-1, 0, 99, 10000, Integer.MIN_VALUE, Integer.MAX_VALUE}) {
            CHECKS.failsAndKeeps("room " + wrong, pier, BAD_ARGUMENT, () -> pier.addTruck(1, wrong, false));
        }
        tick(pier, 5);
        CHECKS.failsAndKeeps("the present hour", pier, BAD_ARGUMENT, () -> pier.addTruck(5, 100, false));
        CHECKS.failsAndKeeps("an hour that is gone", pier, BAD_ARGUMENT, () -> pier.addTruck(4, 100, false));
        CHECKS.is("the next hour", 0, pier.addTruck(6, 100, false));
    }

    // Promise 29

    private static void loadingTakesRoom() {
        Fishpier pier = pierWithSoldLots(60, 40, 30);
        pier.addTruck(5, 100, true);
        pier.addTruck(6, 200, true);
        CHECKS.is("room left", 40, pier.load(0, 0));
        CHECKS.is("loaded", 'l', pier.stateOf(0));
        CHECKS.is("no room left", 0, pier.load(1, 0));
        CHECKS.is("the other truck has its own room", 170, pier.load(2, 1));
        CHECKS.is("what was paid is kept", 3000, pier.paidFor(0));
    }

    private static void loadingRefusesStates() {
        Fishpier pier = pierWithSoldLots(10, 10);
        pier.land(0, 0, 0, 10, true);
        pier.addTruck(1, 100, false);
        pier.addTruck(100, 100, false);
        CHECKS.failsAndKeeps("for sale", pier, BAD_STATE, () -> pier.load(2, 0));
        pier.load(0, 0);
        CHECKS.failsAndKeeps("loaded", pier, BAD_STATE, () -> pier.load(0, 0));
        CHECKS.failsAndKeeps("loaded, other truck", pier, BAD_STATE, () -> pier.load(0, 1));
        pier.tick();
        CHECKS.failsAndKeeps("delivered", pier, BAD_STATE, () -> pier.load(0, 1));
        CHECKS.failsAndKeeps("the truck has left", pier, BAD_STATE, () -> pier.load(1, 0));
        tick(pier, 59);
        CHECKS.is("lot 2 is spoiled", 'x', pier.stateOf(2));
        CHECKS.failsAndKeeps("spoiled", pier, BAD_STATE, () -> pier.load(2, 1));
        CHECKS.failsAndKeeps("the truck has long left", pier, BAD_STATE, () -> pier.load(1, 0));
        CHECKS.is("the other truck takes it", 90, pier.load(1, 1));
    }

    private static void loadingRefusesFullTrucks() {
        Fishpier pier = pierWithSoldLots(1, 1, 1, 1, 1, 1, 100, 99);
        pier.addTruck(5, 9999, false);
        pier.addTruck(5, 100, false);
        for (int lot = 0; lot < 5; lot++) {
            CHECKS.is("five lots", 9998 - lot, pier.load(lot, 0));
        }
        CHECKS.failsAndKeeps("a sixth lot", pier, BAD_STATE, () -> pier.load(5, 0));
        CHECKS.is("the other truck takes it", 99, pier.load(5, 1));
        CHECKS.failsAndKeeps("a kilogram too much", pier, BAD_STATE, () -> pier.load(6, 1));
        CHECKS.is("exactly the room", 0, pier.load(7, 1));
    }

    private static void closedTrucksTakeBoxes() {
        Fishpier pier = pierWithSoldLots(10, 20);
        pier.sell(pier.land(0, 0, 0, 30, false));
        pier.sell(pier.land(0, 0, 0, 40, false));
        pier.addTruck(5, 100, true);
        pier.addTruck(5, 100, false);
        CHECKS.is("boxed into closed", 90, pier.load(0, 0));
        CHECKS.failsAndKeeps("loose into closed", pier, UNSUPPORTED, () -> pier.load(2, 0));
        CHECKS.is("loose into open", 70, pier.load(2, 1));
        CHECKS.is("boxed into open", 50, pier.load(1, 1));
        CHECKS.is("a loose lot is still sold", 's', pier.stateOf(3));
    }

    private static void loadingThrowsTheFirstThatApplies() {
        Fishpier pier = pierWithSoldLots(10);
        pier.sell(pier.land(0, 0, 0, 101, false));
        pier.land(0, 0, 0, 10, false);
        pier.addTruck(5, 100, true);
        for (int wrong : new int[] {-1, 3, 20, Integer.MIN_VALUE, Integer.MAX_VALUE}) {
            CHECKS.failsAndKeeps("lot " + wrong, pier, NO_ELEMENT, () -> pier.load(wrong, 0));
            CHECKS.failsAndKeeps("lot and truck " + wrong, pier, NO_ELEMENT, () -> pier.load(wrong, wrong));
        }
        for (int wrong : new int[] {-1, 1, 4, Integer.MIN_VALUE, Integer.MAX_VALUE}) {
            CHECKS.failsAndKeeps("truck " + wrong, pier, NO_INDEX, () -> pier.load(0, wrong));
            CHECKS.failsAndKeeps("not sold, truck " + wrong, pier, NO_INDEX, () -> pier.load(2, wrong));
        }
        CHECKS.failsAndKeeps("not sold and loose", pier, BAD_STATE, () -> pier.load(2, 0));
        CHECKS.failsAndKeeps("too heavy and loose", pier, BAD_STATE, () -> pier.load(1, 0));
        tick(pier, 5);
        pier.sell(2);
        CHECKS.failsAndKeeps("left and loose", pier, BAD_STATE, () -> pier.load(2, 0));
    }

    // Promise 30

    private static void lotsOnTrucks() {
        Fishpier pier = pierWithSoldLots(1, 2, 3, 4, 5, 6);
        pier.addTruck(1, 100, false);
        pier.addTruck(9, 100, false);
        int[] order = {4, 0, 5, 2, 1};
        CHECKS.fails("an empty truck", NO_ELEMENT, () -> pier.lotOn(0, 0));
        for (int index = 0; index < 5; index++) {
            pier.load(order[index], 0);
        }
        pier.load(3, 1);
        checkLots(pier, order);
        pier.tick();
        checkLots(pier, order);
        CHECKS.is("the other truck", 3, pier.lotOn(1, 0));
        for (int wrong : new int[] {-1, 5, 6, 20, Integer.MIN_VALUE, Integer.MAX_VALUE}) {
            CHECKS.fails("index " + wrong, NO_ELEMENT, () -> pier.lotOn(0, wrong));
        }
        for (int wrong : new int[] {-1, 1, 4, Integer.MIN_VALUE, Integer.MAX_VALUE}) {
            CHECKS.fails("index on a truck with one " + wrong, NO_ELEMENT, () -> pier.lotOn(1, wrong));
        }
        for (int wrong : new int[] {-1, 2, 4, Integer.MIN_VALUE, Integer.MAX_VALUE}) {
            CHECKS.fails("truck " + wrong, NO_INDEX, () -> pier.lotOn(wrong, 0));
            CHECKS.fails("truck and index " + wrong, NO_INDEX, () -> pier.lotOn(wrong, -1));
        }
    }

    private static void checkLots(Fishpier pier, int[] order) {
        for (int index = 0; index < order.length; index++) {
            CHECKS.is("lotOn in order of loading", order[index], pier.lotOn(0, index));
        }
    }

    // Promise 16, trucks

    private static void trucksLeaveOnTheirHour() {
        Fishpier pier = pierWithSoldLots(10, 20, 30);
        pier.addTruck(3, 100, false);
        pier.addTruck(2, 100, false);
        pier.addTruck(3, 100, false);
        pier.load(0, 0);
        pier.load(1, 1);
        CHECKS.is("tick 1", 0, pier.tick());
        CHECKS.is("tick 2", 1, pier.tick());
        CHECKS.is("lot of truck 1", 'd', pier.stateOf(1));
        CHECKS.is("lot of truck 0", 'l', pier.stateOf(0));
        CHECKS.is("tick 3, one of them empty", 2, pier.tick());
        CHECKS.is("lot of truck 0 then", 'd', pier.stateOf(0));
        CHECKS.is("a lot on no truck", 's', pier.stateOf(2));
        CHECKS.is("tick 4", 0, pier.tick());
        CHECKS.is("the tick of leaving ages the lot", 100.0f * 0.98f * 0.98f, pier.fresh(1));
        CHECKS.is("the tick of leaving ages the other lot", 100.0f * 0.98f * 0.98f * 0.98f, pier.fresh(0));
    }

    private static void oldFishCostsMoney() {
        Fishpier pier = pierWithSoldLots(1000, 77, 3);
        pier.addTruck(40, 9999, false);
        pier.addTruck(18, 9999, false);
        pier.load(0, 0);
        pier.load(1, 1);
        int budget = pier.budget(0);
        CHECKS.is("income before", 54000L, pier.income());
        tick(pier, 18);
        float fresh = pier.fresh(1);
        CHECKS.is("freshness is just below 70", true, fresh < 70.0f && fresh > 69.0f);
        int back = (int) (3850.0f * (70.0f - fresh) / 100.0f);
        CHECKS.is("some money goes back", true, back > 0);
        CHECKS.is("paid after a little late", 3850 - back, pier.paidFor(1));
        CHECKS.is("budget after a little late", budget + back, pier.budget(0));
        CHECKS.is("income after a little late", 54000L - back, pier.income());
        tick(pier, 22);
        int more = (int) (50000.0f * (70.0f - pier.fresh(0)) / 100.0f);
        CHECKS.is("paid after late", 50000 - more, pier.paidFor(0));
        CHECKS.is("budget after late", budget + back + more, pier.budget(0));
        CHECKS.is("income after late", 54000L - back - more, pier.income());
        CHECKS.is("income by lots after late", 54000L - back - more, pier.incomeByLots());
        CHECKS.is("only what is delivered counts", 150, pier.paidFor(2));
        tick(pier, 10);
        CHECKS.is("money goes back once", 50000 - more, pier.paidFor(0));
        CHECKS.is("sound", true, pier.isSound());
    }

    private static void freshFishCostsNone() {
        Fishpier pier = pierWithSoldLots(1000, 1000);
        pier.addTruck(17, 9999, false);
        pier.addTruck(71, 9999, false);
        pier.load(0, 0);
        for (int times = 0; times < 8; times++) {
            pier.ice(1, 999);
        }
        pier.load(1, 1);
        tick(pier, 71);
        CHECKS.is("freshness is above 70", true, pier.fresh(0) > 70.0f && pier.fresh(1) > 70.0f);
        CHECKS.is("freshness is hardly above 70", true, pier.fresh(1) < 70.1f);
        CHECKS.is("nothing goes back", 50000, pier.paidFor(0));
        CHECKS.is("ice saves the money", 50000, pier.paidFor(1));
        CHECKS.is("all is income", 100000L, pier.income());
    }
}
