import java.util.NoSuchElementException;

/** Promises 1 to 8: boats, quotas, landing and days. */
public final class BoatsTest {
    private static final Class<IndexOutOfBoundsException> NO_INDEX = IndexOutOfBoundsException.class;
    private static final Class<IllegalArgumentException> BAD_ARGUMENT = IllegalArgumentException.class;
    private static final Class<IllegalStateException> BAD_STATE = IllegalStateException.class;
    private static final Class<UnsupportedOperationException> UNSUPPORTED = UnsupportedOperationException.class;
    private static final Class<NoSuchElementException> NO_ELEMENT = NoSuchElementException.class;

    private static final Checks CHECKS = new Checks("BoatsTest");

    private BoatsTest() {
    }

    public static void main(String[] args) {
        newPierIsEmpty();
        newPiersShareNothing();
        boatsAreNumberedUpToSix();
        boatsRefuseWrongQuotas();
        landingDrawsTheQuota();
        landingRefusesWrongNumbers();
        landingThrowsTheFirstThatApplies();
        landingEndsAtTwentyLots();
        movingQuotas();
        movingRefusesWrongNumbers();
        askingQuotas();
        quotasWrittenDown();
        daysEndAtNineteen();
        beyondAddsUp();
        CHECKS.end();
    }

    // Promise 1

    private static void newPierIsEmpty() {
        Fishpier pier = new Fishpier();
        CHECKS.is("new time", 0, pier.time());
        CHECKS.is("new beyond", 0, pier.beyond());
        CHECKS.is("new income", 0L, pier.income());
        CHECKS.is("new incomeByLots", 0L, pier.incomeByLots());
        CHECKS.is("new spoiled", 0, pier.spoiled());
        CHECKS.is("new isSound", true, pier.isSound());
        CHECKS.fails("new has no boat", NO_INDEX, () -> pier.quota(0, 0));
        CHECKS.fails("new has no lot", NO_ELEMENT, () -> pier.weight(0));
        CHECKS.fails("new has no buyer", NO_INDEX, () -> pier.budget(0));
        CHECKS.fails("new has no truck", NO_INDEX, () -> pier.lotOn(0, 0));
        CHECKS.is("new first day ends", 1, pier.endDay());
    }

    private static void newPiersShareNothing() {
        Fishpier one = new Fishpier();
        one.addBoat(10, 10, 10, 10);
        one.land(0, 0, 0, 20, true);
        one.addBuyer(100);
        one.setClock(5, 1, 0);
        one.tick();
        Fishpier other = new Fishpier();
        CHECKS.is("other pier has boat 0 yet to come", 0, other.addBoat(1, 1, 1, 1));
        CHECKS.is("other pier has its own quota", 1, other.quota(0, 0));
        CHECKS.is("other pier has its own time", 0, other.time());
        CHECKS.is("other pier has its own clock", 1000, other.setClock(1, 1, 0));
    }

    // Promise 2

    private static void boatsAreNumberedUpToSix() {
        Fishpier pier = new Fishpier();
        for (int boat = 0; boat < 6; boat++) {
            CHECKS.is("addBoat numbers", boat, pier.addBoat(boat, 0, 9999, 10 + boat));
        }
        for (int boat = 0; boat < 6; boat++) {
            CHECKS.is("first quota", boat, pier.quota(boat, 0));
            CHECKS.is("second quota", 0, pier.quota(boat, 1));
            CHECKS.is("third quota", 9999, pier.quota(boat, 2));
            CHECKS.is("fourth quota", 10 + boat, pier.quota(boat, 3));
        }
        CHECKS.failsAndKeeps("seventh boat", pier, BAD_STATE, () -> pier.addBoat(0, 0, 0, 0));
        CHECKS.failsAndKeeps("seventh boat, wrong quota", pier, BAD_ARGUMENT, () -> pier.addBoat(0, 0, 0, -1));
    }

    private static void boatsRefuseWrongQuotas() {
        Fishpier pier = new Fishpier();
        for (int wrong : new int[] {-1, 10000, Integer.MIN_VALUE, Integer.MAX_VALUE}) {
            CHECKS.failsAndKeeps("first " + wrong, pier, BAD_ARGUMENT, () -> pier.addBoat(wrong, 0, 0, 0));
            CHECKS.failsAndKeeps("second " + wrong, pier, BAD_ARGUMENT, () -> pier.addBoat(0, wrong, 0, 0));
            CHECKS.failsAndKeeps("third " + wrong, pier, BAD_ARGUMENT, () -> pier.addBoat(0, 0, wrong, 0));
            CHECKS.failsAndKeeps("fourth " + wrong, pier, BAD_ARGUMENT, () -> pier.addBoat(0, 0, 0, wrong));
        }
        CHECKS.is("first boat after refusals", 0, pier.addBoat(9999, 9999, 9999, 9999));
    }

    // Promise 3

    private static void landingDrawsTheQuota() {
        Fishpier pier = new Fishpier();
        pier.addBoat(100, 200, 9999, 1);
        pier.addBoat(100, 200, 300, 400);
        CHECKS.is("first lot", 0, pier.land(0, 0, 2, 60, true));
        CHECKS.is("quota falls", 40, pier.quota(0, 0));
        CHECKS.is("other species keeps", 200, pier.quota(0, 1));
        CHECKS.is("other boat keeps", 100, pier.quota(1, 0));
        CHECKS.is("weight as landed", 60, pier.weight(0));
        CHECKS.is("nothing beyond", 0, pier.beyond());
        CHECKS.is("second lot", 1, pier.land(0, 0, 0, 41, false));
        CHECKS.is("weight is what is left", 40, pier.weight(1));
        CHECKS.is("quota is used up", 0, pier.quota(0, 0));
        CHECKS.is("one beyond", 1, pier.beyond());
        CHECKS.is("exact quota", 2, pier.land(1, 1, 1, 200, false));
        CHECKS.is("exact weight", 200, pier.weight(2));
        CHECKS.is("exact leaves nothing", 0, pier.quota(1, 1));
        CHECKS.is("still one beyond", 1, pier.beyond());
        CHECKS.is("least landing", 3, pier.land(0, 3, 0, 1, false));
        CHECKS.is("greatest landing", 4, pier.land(0, 2, 0, 2000, false));
        CHECKS.is("greatest weight", 2000, pier.weight(4));
        CHECKS.is("state", 'f', pier.stateOf(4));
        CHECKS.is("freshness", 100.0f, pier.fresh(4));
        CHECKS.is("no ice", 0, pier.iceOn(4));
        CHECKS.is("not paid", 0, pier.paidFor(4));
    }

    private static void landingRefusesWrongNumbers() {
        Fishpier pier = new Fishpier();
        pier.addBoat(100, 100, 100, 100);
        for (int wrong : new int[] {-1, 1, 6, Integer.MIN_VALUE, Integer.MAX_VALUE}) {
            CHECKS.failsAndKeeps("land boat " + wrong, pier, NO_INDEX, () -> pier.land(wrong, 0, 0, 1, true));
        }
        for (int wrong : new int[] {-1, 4, Integer.MIN_VALUE, Integer.MAX_VALUE}) {
            CHECKS.failsAndKeeps("land species " + wrong, pier, BAD_ARGUMENT, () -> pier.land(0, wrong, 0, 1, true));
        }
        for (int wrong : new int[] {-1, 3, Integer.MIN_VALUE, Integer.MAX_VALUE}) {
            CHECKS.failsAndKeeps("land size " + wrong, pier, BAD_ARGUMENT, () -> pier.land(0, 0, wrong, 1, true));
        }
        for (int wrong : new int[] {-1, 0, 2001, Integer.MIN_VALUE, Integer.MAX_VALUE}) {
            CHECKS.failsAndKeeps("land weight " + wrong, pier, BAD_ARGUMENT, () -> pier.land(0, 0, 0, wrong, true));
        }
    }

    private static void landingThrowsTheFirstThatApplies() {
        Fishpier pier = new Fishpier();
        pier.addBoat(2000, 0, 0, 0);
        CHECKS.failsAndKeeps("no quota", pier, UNSUPPORTED, () -> pier.land(0, 1, 0, 1, true));
        CHECKS.failsAndKeeps("no boat and wrong weight", pier, NO_INDEX, () -> pier.land(1, 9, 9, 0, true));
        CHECKS.failsAndKeeps("wrong weight and no quota", pier, BAD_ARGUMENT, () -> pier.land(0, 1, 0, 0, true));
        for (int lot = 0; lot < 20; lot++) {
            pier.land(0, 0, 0, 1, true);
        }
        CHECKS.failsAndKeeps("20 lots and no quota", pier, BAD_STATE, () -> pier.land(0, 1, 0, 1, true));
        CHECKS.failsAndKeeps("20 lots and wrong size", pier, BAD_ARGUMENT, () -> pier.land(0, 0, 3, 1, true));
        CHECKS.failsAndKeeps("20 lots and no boat", pier, NO_INDEX, () -> pier.land(-1, 0, 0, 1, true));
    }

    private static void landingEndsAtTwentyLots() {
        Fishpier pier = new Fishpier();
        pier.addBoat(9999, 0, 0, 0);
        for (int lot = 0; lot < 20; lot++) {
            CHECKS.is("land numbers", lot, pier.land(0, 0, 0, lot + 1, true));
        }
        for (int lot = 0; lot < 20; lot++) {
            CHECKS.is("each lot has its weight", lot + 1, pier.weight(lot));
        }
        CHECKS.failsAndKeeps("lot 20", pier, BAD_STATE, () -> pier.land(0, 0, 0, 1, true));
    }

    // Promise 4

    private static void movingQuotas() {
        Fishpier pier = new Fishpier();
        pier.addBoat(100, 20, 30, 9999);
        pier.addBoat(1, 2, 3, 9999);
        CHECKS.is("moveQuota answers", 70, pier.moveQuota(0, 1, 0, 30));
        CHECKS.is("from has less", 70, pier.quota(0, 0));
        CHECKS.is("to has more", 31, pier.quota(1, 0));
        CHECKS.is("species 1 keeps", 20, pier.quota(0, 1));
        CHECKS.is("all of it moves", 0, pier.moveQuota(0, 1, 0, 70));
        CHECKS.is("to has all", 101, pier.quota(1, 0));
        CHECKS.is("greatest move", 0, pier.moveQuota(0, 1, 3, 9999));
        CHECKS.is("beyond 9999 is fine", 19998, pier.quota(1, 3));
        CHECKS.is("least move back", 19997, pier.moveQuota(1, 0, 3, 1));
        CHECKS.is("sound after moves", true, pier.isSound());
        pier.land(1, 0, 0, 90, true);
        CHECKS.is("move of what is left", 1, pier.moveQuota(1, 0, 0, 10));
        CHECKS.is("sound after landing and move", true, pier.isSound());
    }

    private static void movingRefusesWrongNumbers() {
        Fishpier pier = new Fishpier();
        pier.addBoat(100, 20, 30, 40);
        pier.addBoat(1, 2, 3, 4);
        for (int wrong : new int[] {-1, 2, 6, Integer.MIN_VALUE, Integer.MAX_VALUE}) {
            CHECKS.failsAndKeeps("from " + wrong, pier, NO_INDEX, () -> pier.moveQuota(wrong, 0, 0, 1));
            CHECKS.failsAndKeeps("to " + wrong, pier, NO_INDEX, () -> pier.moveQuota(0, wrong, 0, 1));
            CHECKS.failsAndKeeps("both " + wrong, pier, NO_INDEX, () -> pier.moveQuota(wrong, wrong, 9, 0));
        }
        CHECKS.failsAndKeeps("same boat", pier, BAD_ARGUMENT, () -> pier.moveQuota(0, 0, 0, 1));
        CHECKS.failsAndKeeps("same boat, too much", pier, BAD_ARGUMENT, () -> pier.moveQuota(0, 0, 0, 200));
        for (int wrong : new int[] {-1, 4, Integer.MIN_VALUE, Integer.MAX_VALUE}) {
            CHECKS.failsAndKeeps("species " + wrong, pier, BAD_ARGUMENT, () -> pier.moveQuota(0, 1, wrong, 1));
        }
        for (int wrong : new int[] {-1, 0, 10000, Integer.MIN_VALUE, Integer.MAX_VALUE}) {
            CHECKS.failsAndKeeps("kilograms " + wrong, pier, BAD_ARGUMENT, () -> pier.moveQuota(0, 1, 0, wrong));
        }
        CHECKS.failsAndKeeps("more than there is", pier, BAD_STATE, () -> pier.moveQuota(0, 1, 0, 101));
        CHECKS.failsAndKeeps("much more", pier, BAD_STATE, () -> pier.moveQuota(1, 0, 3, 9999));
    }

    // Promise 5

    private static void askingQuotas() {
        Fishpier pier = new Fishpier();
        pier.addBoat(1, 2, 3, 4);
        for (int species = 0; species < 4; species++) {
            CHECKS.is("quota of species " + species, species + 1, pier.quota(0, species));
        }
        for (int wrong : new int[] {-1, 1, 6, Integer.MIN_VALUE, Integer.MAX_VALUE}) {
            CHECKS.fails("quota of boat " + wrong, NO_INDEX, () -> pier.quota(wrong, 0));
            CHECKS.fails("quota of boat and species " + wrong, NO_INDEX, () -> pier.quota(wrong, -1));
        }
        for (int wrong : new int[] {-1, 4, Integer.MIN_VALUE, Integer.MAX_VALUE}) {
            CHECKS.fails("quota of species " + wrong, BAD_ARGUMENT, () -> pier.quota(0, wrong));
        }
    }

    // Promise 6

    private static void quotasWrittenDown() {
        Fishpier pier = new Fishpier();
        pier.addBoat(10, 20, 30, 40);
        CHECKS.fails("day 0 has not ended", NO_ELEMENT, () -> pier.quotaAt(0, 0, 0));
        pier.endDay();
        pier.land(0, 1, 0, 5, true);
        pier.addBoat(7, 7, 7, 7);
        CHECKS.is("not what it is now", 20, pier.quotaAt(0, 1, 0));
        CHECKS.is("boat 1 was added later", 0, pier.quotaAt(1, 2, 0));
        pier.endDay();
        pier.moveQuota(0, 1, 1, 3);
        CHECKS.is("day 1 boat 0", 15, pier.quotaAt(0, 1, 1));
        CHECKS.is("day 1 boat 1", 7, pier.quotaAt(1, 1, 1));
        CHECKS.is("day 0 is kept", 20, pier.quotaAt(0, 1, 0));
        CHECKS.is("other species of day 0", 40, pier.quotaAt(0, 3, 0));
        for (int wrong : new int[] {-1, 2, 19, 20, Integer.MIN_VALUE, Integer.MAX_VALUE}) {
            CHECKS.fails("day " + wrong, NO_ELEMENT, () -> pier.quotaAt(0, 0, wrong));
        }
        for (int wrong : new int[] {-1, 4, Integer.MIN_VALUE, Integer.MAX_VALUE}) {
            CHECKS.fails("species " + wrong, BAD_ARGUMENT, () -> pier.quotaAt(0, wrong, 0));
            CHECKS.fails("species and day " + wrong, BAD_ARGUMENT, () -> pier.quotaAt(0, wrong, 7));
        }
        for (int wrong : new int[] {-1, 2, 6, Integer.MIN_VALUE, Integer.MAX_VALUE}) {
            CHECKS.fails("boat " + wrong, NO_INDEX, () -> pier.quotaAt(wrong, 0, 0));
            CHECKS.fails("boat and all " + wrong, NO_INDEX, () -> pier.quotaAt(wrong, 4, 7));
        }
    }

    // Promise 7

    private static void daysEndAtNineteen() {
        Fishpier pier = new Fishpier();
        pier.addBoat(2000, 0, 0, 50);
        for (int day = 1; day <= 19; day++) {
            pier.land(0, 0, 0, 1, true);
            CHECKS.is("endDay answers", day, pier.endDay());
        }
        CHECKS.failsAndKeeps("day 19 does not end", pier, BAD_STATE, () -> pier.endDay());
        CHECKS.failsAndKeeps("day 19 does not end again", pier, BAD_STATE, () -> pier.endDay());
        for (int day = 0; day < 19; day++) {
            CHECKS.is("quota of day " + day, 1999 - day, pier.quotaAt(0, 0, day));
            CHECKS.is("last species of day " + day, 50, pier.quotaAt(0, 3, day));
        }
        CHECKS.fails("day 19 was not written down", NO_ELEMENT, () -> pier.quotaAt(0, 0, 19));
        CHECKS.is("a day is no tick", 0, pier.time());
    }

    // Promise 8

    private static void beyondAddsUp() {
        Fishpier pier = new Fishpier();
        pier.addBoat(10, 10, 10, 10);
        pier.addBoat(5, 5, 5, 5);
        pier.land(0, 0, 0, 10, true);
        CHECKS.is("nothing beyond", 0, pier.beyond());
        pier.land(0, 1, 0, 2000, true);
        CHECKS.is("beyond of one boat", 1990, pier.beyond());
        pier.land(1, 1, 0, 8, true);
        CHECKS.is("beyond of all boats", 1993, pier.beyond());
        CHECKS.failsAndKeeps("refused fish is not beyond", pier, UNSUPPORTED, () -> pier.land(1, 1, 0, 8, true));
        CHECKS.is("beyond after a refusal", 1993, pier.beyond());
    }
}
