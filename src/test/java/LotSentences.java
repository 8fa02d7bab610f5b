/** Promises 9 to 17, sentence by sentence: what lots are, ice, ticks and time. */
final class LotSentences extends SentenceGroup {
    LotSentences(Sentences sentences, Checks checks) {
        super(sentences, checks);
    }

    @Override
    void tell() {
        numbersOfLots("Promise 9", Fishpier::weight);
        numbersOfLots("Promise 10", Fishpier::stateOf);
        numbersOfLots("Promise 11", Fishpier::fresh);
        numbersOfLots("Promise 12", Fishpier::freshBits);
        numbersOfLots("Promise 13", (pier, lot) -> pier.ice(lot, 1));
        numbersOfLots("Promise 14", Fishpier::iceOn);
        numbersOfLots("Promise 15", Fishpier::iceLasts);
        firstAndLastLot();
        weight();
        stateOf();
        fresh();
        freshBits();
        iceArguments();
        iceRefusals();
        iceOn();
        iceLasts();
        tick();
        time();
    }

    /** There is no lot yet, there are some, and there is no room for more. */
    private void numbersOfLots(String promise, PierCall call) {
        says(promise, THROWS_NO_ELEMENT, () -> {
            Fishpier pier = new Fishpier();
            refusesEach("of no lots", pier, NO_ELEMENT, numbers(LEAST, -1, 0, 1, 19, 20, GREATEST),
                    lot -> call.on(pier, lot));
        });
        says(promise, THROWS_NO_ELEMENT, () -> {
            Fishpier pier = pierWithLots(10, 20);
            refusesEach("of two lots", pier, NO_ELEMENT, numbers(LEAST, -1, 2, 19, 20, GREATEST),
                    lot -> call.on(pier, lot));
        });
        says(promise, THROWS_NO_ELEMENT, () -> {
            Fishpier pier = pierWithAllLots();
            refusesEach("of 20 lots", pier, NO_ELEMENT, numbers(LEAST, -1, 20, 21, GREATEST),
                    lot -> call.on(pier, lot));
        });
    }

    private static Fishpier pierWhoseFirstAndLastLotDiffer() {
        Fishpier pier = pierWithBoats(1);
        pier.land(0, 0, 0, 11, true);
        for (int lot = 1; lot < 19; lot++) {
            pier.land(0, 0, 0, 500, true);
        }
        pier.land(0, 0, 0, 23, true);
        addBuyer(pier, 1000000, 50);
        pier.ice(0, 4);
        pier.ice(19, 3);
        pier.sell(19);
        pier.tick();
        return pier;
    }

    private void firstAndLastLot() {
        Fishpier pier = pierWhoseFirstAndLastLotDiffer();
        says("Promise 9", "- `lot`", () -> {
            is("the first", 11, pier.weight(0));
            is("the last", 23, pier.weight(19));
        });
        says("Promise 10", "- `lot`", () -> {
            is("the first", 'f', pier.stateOf(0));
            is("the last", 's', pier.stateOf(19));
        });
        says("Promise 11", "- `lot`", () -> {
            is("the first", 99.5f, pier.fresh(0));
            is("the last", 99.5f, pier.fresh(19));
            is("one between", 98.0f, pier.fresh(18));
        });
        says("Promise 12", "- `lot`", () -> {
            is("the first", Float.floatToIntBits(99.5f), pier.freshBits(0));
            is("the last", Float.floatToIntBits(99.5f), pier.freshBits(19));
            is("one between", Float.floatToIntBits(98.0f), pier.freshBits(18));
        });
        says("Promise 14", "- `lot`", () -> {
            is("the first", 2, pier.iceOn(0));
            is("the last", 0, pier.iceOn(19));
        });
        says("Promise 15", "- `lot`", () -> {
            is("the first", 1, pier.iceLasts(0));
            is("the last", 0, pier.iceLasts(19));
        });
        says("Promise 13", "- `lot`", () -> {
            is("the first", 3, pier.ice(0, 1));
            is("the last", 1, pier.ice(19, 1));
            is("one between", 0, pier.iceOn(18));
        });
    }

    // Promise 9

    private void weight() {
        says("Promise 9", "Returns", () -> {
            Fishpier pier = pierWithLots(1, 2000, 2000, 2000, 2000);
            pier.land(0, 0, 0, 2000, true);
            is("the least", 1, pier.weight(0));
            is("the greatest", 2000, pier.weight(1));
            is("what was left of the quota", 1998, pier.weight(5));
        });
        says("Promise 9", "Returns", () -> {
            Fishpier pier = pierWithLotsInAllStates();
            for (int lot = 0; lot < 5; lot++) {
                is("in state " + pier.stateOf(lot), 10, pier.weight(lot));
            }
        });
    }

    // Promise 10

    private void stateOf() {
        says("Promise 10", "Returns", () -> {
            Fishpier pier = pierWithLots(10);
            is("just landed", 'f', pier.stateOf(0));
            tick(pier, 59);
            is("in the last tick for sale", 'f', pier.stateOf(0));
            pier.tick();
            is("in the first tick spoiled", 'x', pier.stateOf(0));
            tick(pier, 10);
            is("spoiled for good", 'x', pier.stateOf(0));
        });
        says("Promise 10", "Returns", () -> {
            Fishpier pier = pierWithSoldLots(10, 10);
            is("sold", 's', pier.stateOf(0));
            pier.addTruck(2, 100, false);
            pier.load(0, 0);
            is("loaded", 'l', pier.stateOf(0));
            pier.tick();
            is("loaded in the tick before the hour", 'l', pier.stateOf(0));
            pier.tick();
            is("delivered in the hour", 'd', pier.stateOf(0));
            is("one that was not loaded", 's', pier.stateOf(1));
            tick(pier, 70);
            is("delivered for good", 'd', pier.stateOf(0));
            is("a sold one does not spoil", 's', pier.stateOf(1));
        });
    }

    // Promises 11 and 12

    private void fresh() {
        says("Promise 11", "Returns", () -> {
            Fishpier pier = pierWithLots(10, 10);
            pier.ice(1, 1);
            is("the greatest, just landed", 100.0f, pier.fresh(0));
            pier.tick();
            is("after a tick", 98.0f, pier.fresh(0));
            is("after a tick on ice", 99.5f, pier.fresh(1));
        });
        says("Promise 11", "Returns", () -> {
            Fishpier pier = pierWithSoldLots(10);
            float least = 100.0f;
            for (int tick = 0; tick < 505; tick++) {
                pier.tick();
                least = least * 0.98f;
            }
            is("the least that 512 calls can reach, nearly", least, pier.fresh(0));
            is("it is more than 0", true, pier.fresh(0) > 0.0f);
        });
    }

    private void freshBits() {
        says("Promise 12", "Returns", () -> is("bits of 100", 0x42C80000, pierWithLots(1).freshBits(0)));
        says("Promise 12", "Returns", () -> {
            float fresh = 100.0f;
            int powers = 0;
            for (int ticks = 1; ticks <= 506; ticks++) {
                float next = fresh * 0.98f;
                powers += Math.getExponent(next) == Math.getExponent(fresh) ? 0 : 1;
                fresh = next;
                // A pier for each question, since an object is good for 512 calls.
                Fishpier pier = pierWithSoldLots(10);
                tick(pier, ticks);
                is("bits of " + fresh, Float.floatToIntBits(fresh), pier.freshBits(0));
            }
            is("powers of two that were passed", 15, powers);
        });
    }

    // Promise 13

    private void iceArguments() {
        says("Promise 13", "- `kilograms`", () -> {
            Fishpier pier = pierWithLots(10, 10);
            is("the least", 1, pier.ice(0, 1));
            is("the greatest", 999, pier.ice(1, 999));
        });
        says("Promise 13", "Returns", () -> {
            Fishpier pier = pierWithLots(10);
            for (int times = 1; times <= 500; times++) {
                is("all ice together", 999 * times, pier.ice(0, 999));
            }
        });
    }

    private void iceRefusals() {
        says("Promise 13", THROWS_BAD_ARGUMENT, () -> {
            Fishpier pier = pierWithLots(10);
            pier.ice(0, 5);
            refusesEach("kilograms", pier, BAD_ARGUMENT, numbers(LEAST, -1, 0, 1000, GREATEST),
                    kilograms -> pier.ice(0, kilograms));
            is("the ice is as it was", 5, pier.iceOn(0));
        });
        says("Promise 13", THROWS_BAD_STATE, () -> {
            Fishpier pier = pierWithSoldLots(10);
            is("ice on a sold lot", 1, pier.ice(0, 1));
            pier.addTruck(1, 100, false);
            pier.load(0, 0);
            is("ice on a loaded lot", 2, pier.ice(0, 1));
            pier.tick();
            refuses("ice on a delivered lot", pier, BAD_STATE, () -> pier.ice(0, 1));
            is("the ice that it had", 1, pier.iceOn(0));
        });
        says("Promise 13", THROWS_BAD_STATE, () -> {
            Fishpier pier = pierWithLots(20);
            tick(pier, 59);
            is("ice in the last tick for sale", 1, pier.ice(0, 1));
            pier.tick();
            refuses("ice on a spoiled lot", pier, BAD_STATE, () -> pier.ice(0, 1));
            refuses("much ice on a spoiled lot", pier, BAD_STATE, () -> pier.ice(0, 999));
            is("the ice that it had", 1, pier.iceOn(0));
        });
    }

    // Promises 14 and 15

    private void iceOn() {
        says("Promise 14", "Returns", () -> {
            Fishpier pier = pierWithLots(30);
            is("none, just landed", 0, pier.iceOn(0));
            pier.tick();
            is("none after a tick, not less", 0, pier.iceOn(0));
            pier.ice(0, 3);
            is("what was put on", 3, pier.iceOn(0));
            pier.tick();
            is("all is used up", 0, pier.iceOn(0));
        });
        says("Promise 14", "Returns", () -> {
            Fishpier pier = pierWithLots(30);
            pier.ice(0, 2);
            tick(pier, 5);
            is("one too little is kept", 2, pier.iceOn(0));
            pier.ice(0, 2);
            pier.tick();
            is("one more than is used up", 1, pier.iceOn(0));
        });
    }

    private void iceLasts() {
        says("Promise 15", "Returns", () -> {
            int[] weights = {1, 9, 10, 11, 19, 20, 21, 1990, 1991, 2000};
            int[] needs = {1, 1, 1, 2, 2, 2, 3, 199, 200, 200};
            for (int i = 0; i < weights.length; i++) {
                checkIceLasts(weights[i], needs[i]);
            }
        });
        says("Promise 15", "Returns", () -> {
            Fishpier pier = pierWithLots(75);
            pier.ice(0, 100);
            int told = pier.iceLasts(0);
            int used = 0;
            for (int tick = 0; tick < 50; tick++) {
                int before = pier.iceOn(0);
                pier.tick();
                used += pier.iceOn(0) < before ? 1 : 0;
            }
            is("the ticks that did use ice up", told, used);
            is("12 of them", 12, told);
            is("none are left", 0, pier.iceLasts(0));
        });
        says("Promise 15", "Returns", () -> {
            Fishpier pier = pierWithLots(1);
            for (int times = 0; times < 400; times++) {
                pier.ice(0, 999);
            }
            is("more ticks than there can be", 399600, pier.iceLasts(0));
        });
    }

    private void checkIceLasts(int weight, int need) {
        Fishpier pier = pierWithLots(weight);
        is("no ice on " + weight, 0, pier.iceLasts(0));
        if (need > 1) {
            pier.ice(0, need - 1);
            is("one too little on " + weight, 0, pier.iceLasts(0));
        }
        pier.ice(0, need - pier.iceOn(0));
        is("exactly enough on " + weight, 1, pier.iceLasts(0));
        if (need > 1) {
            pier.ice(0, need - 1);
            is("one too little for two ticks on " + weight, 1, pier.iceLasts(0));
        }
        pier.ice(0, 2 * need - pier.iceOn(0));
        is("exactly enough for two ticks on " + weight, 2, pier.iceLasts(0));
    }

    // Promises 16 and 17

    private void tick() {
        says("Promise 16", "Returns", () -> {
            Fishpier pier = new Fishpier();
            is("there are no trucks", 0, pier.tick());
            pier.addTruck(3, 100, false);
            is("the tick before the hour", 0, pier.tick());
            is("the hour, the truck is empty", 1, pier.tick());
            is("the tick after the hour", 0, pier.tick());
        });
        says("Promise 16", "Returns", () -> {
            Fishpier pier = new Fishpier();
            for (int truck = 0; truck < 4; truck++) {
                pier.addTruck(1, 100, truck % 2 == 0);
            }
            is("all that there can be", 4, pier.tick());
            is("all have left", 0, pier.tick());
        });
        says("Promise 16", "Returns", () -> {
            Fishpier pier = new Fishpier();
            pier.addTruck(2, 100, false);
            pier.addTruck(1, 100, false);
            pier.addTruck(2, 100, false);
            is("one of three", 1, pier.tick());
            is("two of three", 2, pier.tick());
        });
    }

    private void time() {
        says("Promise 17", "Returns", () -> is("no tick yet", 0, new Fishpier().time()));
        says("Promise 17", "Returns", () -> {
            Fishpier pier = pierWithLots(10);
            pier.endDay();
            is("neither landing nor a day is a tick", 0, pier.time());
            pier.tick();
            is("a tick is", 1, pier.time());
        });
        says("Promise 17", "Returns", () -> {
            Fishpier pier = new Fishpier();
            tick(pier, 511);
            is("as many as 512 calls leave room for", 511, pier.time());
        });
    }
}
