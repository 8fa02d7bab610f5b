/** Promises 28 to 30, sentence by sentence: trucks and loading. */
final class TruckSentences extends SentenceGroup {
    TruckSentences(Sentences sentences, Checks checks) {
        super(sentences, checks);
    }

    @Override
    void tell() {
        addTruckArguments();
        addTruckRefusals();
        loadArguments();
        loadRefusesLots();
        loadRefusesTrucks();
        loadRefusesLooseLots();
        lotOn();
    }

    private static Fishpier pierWithTrucks(int trucks) {
        Fishpier pier = pierWithSoldLots(10, 20);
        for (int truck = 0; truck < trucks; truck++) {
            pier.addTruck(5, 100 + truck, false);
        }
        return pier;
    }

    // Promise 28

    private void addTruckArguments() {
        says("Promise 28", "- `hour`", () -> {
            Fishpier pier = new Fishpier();
            pier.addTruck(1, 100, false);
            is("the least leaves with the next tick", 1, pier.tick());
            pier.addTruck(2, 100, false);
            is("the least after a tick", 1, pier.tick());
        });
        says("Promise 28", "- `hour`", () -> {
            Fishpier pier = pierWithSoldLots(10);
            pier.addTruck(1000, 100, false);
            for (int tick = 1; tick <= 500; tick++) {
                is("the greatest does not leave in tick " + tick, 0, pier.tick());
            }
            is("it can still be loaded", 90, pier.load(0, 0));
        });
        says("Promise 28", "- `room`", () -> {
            Fishpier pier = pierWithSoldLots(1, 1);
            pier.addTruck(5, 100, false);
            pier.addTruck(5, 9999, false);
            is("the least", 99, pier.load(0, 0));
            is("the greatest", 9998, pier.load(1, 1));
        });
        says("Promise 28", "- `isClosed`", () -> {
            Fishpier pier = pierWithSoldLots();
            pier.sell(pier.land(0, 0, 0, 10, false));
            pier.addTruck(5, 100, true);
            pier.addTruck(5, 100, false);
            refuses("a loose lot on a closed one", pier, UNSUPPORTED, () -> pier.load(0, 0));
            is("a loose lot on an open one", 90, pier.load(0, 1));
        });
        says("Promise 28", "Returns", () -> {
            Fishpier pier = new Fishpier();
            for (int truck = 0; truck < 4; truck++) {
                is("the number", truck, pier.addTruck(9 - truck, 100, truck % 2 == 0));
            }
        });
    }

    private void addTruckRefusals() {
        says("Promise 28", THROWS_BAD_ARGUMENT, () -> {
            Fishpier pier = new Fishpier();
            refusesEach("hour at tick 0", pier, BAD_ARGUMENT, numbers(LEAST, -1, 0, 1001, GREATEST),
                    hour -> pier.addTruck(hour, 100, false));
            tick(pier, 7);
            refusesEach("hour at tick 7", pier, BAD_ARGUMENT, numbers(LEAST, -1, 0, 1, 6, 7, 1001, GREATEST),
                    hour -> pier.addTruck(hour, 100, false));
            is("the next hour", 0, pier.addTruck(8, 100, false));
        });
        says("Promise 28", THROWS_BAD_ARGUMENT, () -> {
            Fishpier pier = new Fishpier();
            refusesEach("room", pier, BAD_ARGUMENT, numbers(LEAST, -1, 0, 99, 10000, GREATEST),
                    room -> pier.addTruck(1, room, false));
            is("the next truck is the first", 0, pier.addTruck(1, 100, false));
        });
        says("Promise 28", THROWS_BAD_STATE, () -> {
            Fishpier pier = pierWithTrucks(3);
            is("there is room for a fourth", 3, pier.addTruck(5, 150, false));
            refuses("there is none for a fifth", pier, BAD_STATE, () -> pier.addTruck(5, 100, false));
            is("the fourth is as it was", 140, pier.load(0, 3));
            tick(pier, 5);
            refuses("nor when all have left", pier, BAD_STATE, () -> pier.addTruck(6, 100, false));
        });
    }

    // Promise 29

    private void loadArguments() {
        says("Promise 29", "- `lot`", () -> {
            Fishpier pier = pierWithAllLots();
            addBuyer(pier, 1000000, 50);
            pier.sell(0);
            pier.sell(19);
            pier.addTruck(5, 100, false);
            pier.load(19, 0);
            pier.load(0, 0);
            is("the first", 'l', pier.stateOf(0));
            is("the last", 'l', pier.stateOf(19));
        });
        says("Promise 29", "- `truck`", () -> {
            Fishpier pier = pierWithTrucks(4);
            is("the first", 90, pier.load(0, 0));
            is("the last", 83, pier.load(1, 3));
        });
        says("Promise 29", "Returns", () -> {
            Fishpier pier = pierWithSoldLots(1, 98, 1);
            pier.addTruck(5, 100, false);
            is("room for much", 99, pier.load(0, 0));
            is("room for one kilogram", 1, pier.load(1, 0));
            is("room for nothing", 0, pier.load(2, 0));
        });
    }

    private void loadRefusesLots() {
        says("Promise 29", THROWS_NO_ELEMENT, () -> {
            Fishpier empty = new Fishpier();
            empty.addTruck(5, 100, false);
            refusesEach("of no lots", empty, NO_ELEMENT, numbers(LEAST, -1, 0, 19, 20, GREATEST),
                    lot -> empty.load(lot, 0));
            Fishpier pier = pierWithTrucks(1);
            refusesEach("of two lots", pier, NO_ELEMENT, numbers(LEAST, -1, 2, 19, 20, GREATEST),
                    lot -> pier.load(lot, 0));
            Fishpier full = pierWithAllLots();
            full.addTruck(5, 100, false);
            refusesEach("of 20 lots", full, NO_ELEMENT, numbers(-1, 20), lot -> full.load(lot, 0));
        });
        says("Promise 29", THROWS_BAD_STATE, () -> {
            Fishpier pier = pierWithLotsInAllStates();
            refuses("it is for sale", pier, BAD_STATE, () -> pier.load(0, 1));
            refuses("it is loaded on this truck", pier, BAD_STATE, () -> pier.load(2, 1));
            refuses("it is delivered", pier, BAD_STATE, () -> pier.load(3, 1));
            refuses("it is spoiled", pier, BAD_STATE, () -> pier.load(4, 1));
            is("it is sold", 180, pier.load(1, 1));
        });
        says("Promise 29", THROWS_BAD_STATE, () -> {
            Fishpier pier = pierWithTrucks(2);
            pier.load(0, 0);
            refuses("it is loaded on another truck", pier, BAD_STATE, () -> pier.load(0, 1));
        });
    }

    private void loadRefusesTrucks() {
        says("Promise 29", THROWS_NO_INDEX, () -> {
            Fishpier empty = pierWithTrucks(0);
            refusesEach("of no trucks", empty, NO_INDEX, numbers(-1, 0, 3, 4), truck -> empty.load(0, truck));
            Fishpier pier = pierWithTrucks(2);
            refusesEach("of two trucks", pier, NO_INDEX, numbers(LEAST, -1, 2, 3, 4, GREATEST),
                    truck -> pier.load(0, truck));
            Fishpier full = pierWithTrucks(4);
            refusesEach("of four trucks", full, NO_INDEX, numbers(-1, 4), truck -> full.load(0, truck));
        });
        says("Promise 29", THROWS_BAD_STATE, () -> {
            Fishpier pier = pierWithTrucks(1);
            tick(pier, 4);
            is("the last tick before it leaves", 90, pier.load(0, 0));
            pier.tick();
            refuses("it has just left", pier, BAD_STATE, () -> pier.load(1, 0));
            pier.tick();
            refuses("it has left before", pier, BAD_STATE, () -> pier.load(1, 0));
        });
        says("Promise 29", THROWS_BAD_STATE, () -> {
            Fishpier pier = pierWithSoldLots(1, 1, 1, 1, 1, 1);
            pier.addTruck(5, 9999, false);
            for (int lot = 0; lot < 4; lot++) {
                pier.load(lot, 0);
            }
            is("it has 4 lots", 9994, pier.load(4, 0));
            refuses("it has 5 lots", pier, BAD_STATE, () -> pier.load(5, 0));
        });
        says("Promise 29", THROWS_BAD_STATE, () -> {
            Fishpier pier = pierWithSoldLots(101, 100, 1);
            pier.addTruck(5, 100, false);
            refuses("the room is one less", pier, BAD_STATE, () -> pier.load(0, 0));
            is("the room is not less", 0, pier.load(1, 0));
            refuses("there is no room", pier, BAD_STATE, () -> pier.load(2, 0));
        });
        says("Promise 29", THROWS_BAD_STATE, () -> {
            Fishpier pier = pierWithSoldLots(60, 41, 40);
            pier.addTruck(5, 100, false);
            pier.load(0, 0);
            refuses("the room that is left is one less", pier, BAD_STATE, () -> pier.load(1, 0));
            is("the room that is left is not less", 0, pier.load(2, 0));
        });
    }

    private void loadRefusesLooseLots() {
        says("Promise 29", THROWS_UNSUPPORTED, () -> {
            Fishpier pier = pierWithSoldLots(10);
            pier.sell(pier.land(0, 0, 0, 100, false));
            pier.addTruck(5, 100, true);
            refuses("a loose lot that fits", pier, UNSUPPORTED, () -> pier.load(1, 0));
            is("a boxed lot", 90, pier.load(0, 0));
        });
    }

    // Promise 30

    private void lotOn() {
        says("Promise 30", "- `truck`", () -> {
            Fishpier pier = pierWithTrucks(4);
            pier.load(1, 0);
            pier.load(0, 3);
            is("the first", 1, pier.lotOn(0, 0));
            is("the last", 0, pier.lotOn(3, 0));
        });
        says("Promise 30", "- `index`", () -> {
            Fishpier pier = pierWithAllLots();
            addBuyer(pier, 1000000, 50);
            pier.addTruck(1, 100, false);
            int[] order = {19, 0, 7, 3, 11};
            for (int lot : order) {
                pier.sell(lot);
                pier.load(lot, 0);
            }
            for (int index = 0; index < 5; index++) {
                is("index " + index, order[index], pier.lotOn(0, index));
            }
        });
        says("Promise 30", "`int lotOn(int truck, int index)", () -> {
            Fishpier pier = pierWithTrucks(1);
            pier.load(1, 0);
            pier.load(0, 0);
            tick(pier, 5);
            is("the first, when the truck has left", 1, pier.lotOn(0, 0));
            is("the last, when the truck has left", 0, pier.lotOn(0, 1));
        });
        says("Promise 30", "Returns", () -> {
            Fishpier pier = pierWithAllLots();
            addBuyer(pier, 1000000, 50);
            pier.addTruck(5, 100, false);
            pier.sell(19);
            pier.load(19, 0);
            is("the last lot", 19, pier.lotOn(0, 0));
        });
        says("Promise 30", THROWS_NO_INDEX, () -> {
            Fishpier empty = new Fishpier();
            refusesEach("of no trucks", empty, NO_INDEX, numbers(-1, 0, 3, 4), truck -> empty.lotOn(truck, 0));
            Fishpier pier = pierWithTrucks(2);
            refusesEach("of two trucks", pier, NO_INDEX, numbers(LEAST, -1, 2, 3, 4, GREATEST),
                    truck -> pier.lotOn(truck, 0));
            Fishpier full = pierWithTrucks(4);
            refusesEach("of four trucks", full, NO_INDEX, numbers(-1, 4), truck -> full.lotOn(truck, 0));
        });
        says("Promise 30", THROWS_NO_ELEMENT, () -> {
            Fishpier pier = pierWithTrucks(1);
            refusesEach("of no lots on it", pier, NO_ELEMENT, numbers(LEAST, -1, 0, 4, 5, GREATEST),
                    index -> pier.lotOn(0, index));
            pier.load(1, 0);
            refusesEach("of one lot on it", pier, NO_ELEMENT, numbers(LEAST, -1, 1, 4, 5, GREATEST),
                    index -> pier.lotOn(0, index));
        });
        says("Promise 30", THROWS_NO_ELEMENT, () -> {
            Fishpier pier = pierWithSoldLots(1, 1, 1, 1, 1);
            pier.addTruck(5, 100, false);
            for (int lot = 0; lot < 5; lot++) {
                pier.load(lot, 0);
            }
            is("the last of five", 4, pier.lotOn(0, 4));
            refusesEach("of five lots on it", pier, NO_ELEMENT, numbers(LEAST, -1, 5, 6, GREATEST),
                    index -> pier.lotOn(0, index));
        });
    }
}
