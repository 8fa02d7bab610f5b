import java.util.ArrayList;
import java.util.HashMap;
import java.util.List;
import java.util.Map;
import java.util.NoSuchElementException;
import java.util.Optional;
import java.util.TreeMap;

/**
 * A second pier, written from the document alone and with the Java library at hand, against which
 * RandomRunsTest holds the program. It keeps a ledger of what happened where the program keeps sums.
 */
public final class DocPier {
    private static final class Lot {
        int boat;
        int species;
        int size;
        int weight;
        boolean isBoxed;
        char state = 'f';
        float fresh = 100.0f;
        int ice = 0;
        int buyer = -1;
        int price = 0;
        int back = 0;
    }

    private static final class Truck {
        int hour;
        int room;
        boolean isClosed;
        final List<Integer> lots = new ArrayList<>();
    }

    private final List<int[]> granted = new ArrayList<>();
    private final List<Lot> lots = new ArrayList<>();
    private final List<Integer> budgets = new ArrayList<>();
    private final Map<Integer, Integer> limits = new HashMap<>();
    private final List<Truck> trucks = new ArrayList<>();
    private final Map<Integer, List<int[]>> days = new TreeMap<>();
    private final List<int[]> landings = new ArrayList<>();
    private int ticks = 0;
    private int start = 1000;
    private int step = 10;
    private int reserve = 0;

    private static void need(boolean holds, RuntimeException otherwise) {
        if (!holds) {
            throw otherwise;
        }
    }

    private static boolean in(int value, int least, int most) {
        return least <= value && value <= most;
    }

    private void needBoat(int boat) {
        need(in(boat, 0, granted.size() - 1), new IndexOutOfBoundsException());
    }

    private void needBuyer(int buyer) {
        need(in(buyer, 0, budgets.size() - 1), new IndexOutOfBoundsException());
    }

    private void needTruck(int truck) {
        need(in(truck, 0, trucks.size() - 1), new IndexOutOfBoundsException());
    }

    private Lot needLot(int lot) {
        need(in(lot, 0, lots.size() - 1), new NoSuchElementException());
        return lots.get(lot);
    }

    private int left(int boat, int species) {
        int landed = lots.stream().filter(l -> l.boat == boat && l.species == species).mapToInt(l -> l.weight).sum();
        return granted.get(boat)[species] - landed;
    }

    public int addBoat(int first, int second, int third, int fourth) {
        int[] quotas = {first, second, third, fourth};
        for (int quota : quotas) {
            need(in(quota, 0, 9999), new IllegalArgumentException());
        }
        need(granted.size() < 6, new IllegalStateException());
        granted.add(quotas);
        return granted.size() - 1;
    }

    public int land(int boat, int species, int size, int kilograms, boolean isBoxed) {
        needBoat(boat);
        need(in(species, 0, 3) && in(size, 0, 2) && in(kilograms, 1, 2000), new IllegalArgumentException());
        need(lots.size() < 20, new IllegalStateException());
        need(left(boat, species) > 0, new UnsupportedOperationException());
        Lot lot = new Lot();
        lot.weight = kilograms < left(boat, species) ? kilograms : left(boat, species);
        lot.boat = boat;
        lot.species = species;
        lot.size = size;
        lot.isBoxed = isBoxed;
        lots.add(lot);
        landings.add(new int[] {kilograms, lot.weight});
        return lots.size() - 1;
    }

    public int moveQuota(int from, int to, int species, int kilograms) {
        needBoat(from);
        needBoat(to);
        need(from != to && in(species, 0, 3) && in(kilograms, 1, 9999), new IllegalArgumentException());
        need(left(from, species) >= kilograms, new IllegalStateException());
        granted.get(from)[species] -= kilograms;
        granted.get(to)[species] += kilograms;
        return left(from, species);
    }

    public int quota(int boat, int species) {
        needBoat(boat);
        need(in(species, 0, 3), new IllegalArgumentException());
        return left(boat, species);
    }

    public int quotaAt(int boat, int species, int day) {
        needBoat(boat);
        need(in(species, 0, 3), new IllegalArgumentException());
        need(days.containsKey(day), new NoSuchElementException());
        List<int[]> written = days.get(day);
        return boat < written.size() ? written.get(boat)[species] : 0;
    }

    public int endDay() {
        need(days.size() < 19, new IllegalStateException());
        List<int[]> written = new ArrayList<>();
        for (int boat = 0; boat < granted.size(); boat++) {
            written.add(new int[] {left(boat, 0), left(boat, 1), left(boat, 2), left(boat, 3)});
        }
        days.put(days.size(), written);
        return days.size();
    }

    public int beyond() {
        return landings.stream().mapToInt(landing -> landing[0] - landing[1]).sum();
    }

    public int weight(int lot) {
        return needLot(lot).weight;
    }

    public char stateOf(int lot) {
        return needLot(lot).state;
    }

    public float fresh(int lot) {
        return needLot(lot).fresh;
    }

    public int freshBits(int lot) {
        return Float.floatToIntBits(needLot(lot).fresh);
    }

    private static int iceNeeded(Lot lot) {
        return lot.weight / 10 + (lot.weight % 10 == 0 ? 0 : 1);
    }

    public int ice(int lot, int kilograms) {
        Lot iced = needLot(lot);
        need(in(kilograms, 1, 999), new IllegalArgumentException());
        need("fsl".indexOf(iced.state) >= 0, new IllegalStateException());
        iced.ice += kilograms;
        return iced.ice;
    }

    public int iceOn(int lot) {
        return needLot(lot).ice;
    }

    public int iceLasts(int lot) {
        int ice = needLot(lot).ice;
        int lasts = 0;
        while (ice >= iceNeeded(lots.get(lot))) {
            ice -= iceNeeded(lots.get(lot));
            lasts++;
        }
        return lasts;
    }

    public int tick() {
        for (Lot lot : lots) {
            if ("fsl".indexOf(lot.state) < 0) {
                continue;
            }
            boolean isIced = lot.ice >= iceNeeded(lot);
            lot.ice = isIced ? lot.ice - iceNeeded(lot) : lot.ice;
            lot.fresh = lot.fresh * (isIced ? 0.995f : 0.98f);
            lot.state = lot.fresh < 30.0f && lot.state == 'f' ? 'x' : lot.state;
        }
        ticks++;
        int leaving = 0;
        for (Truck truck : trucks) {
            if (truck.hour == ticks) {
                leaving++;
                truck.lots.forEach(lot -> deliver(lots.get(lot)));
            }
        }
        return leaving;
    }

    private void deliver(Lot lot) {
        lot.state = 'd';
        if (lot.fresh < 70.0f) {
            int paid = lot.price * lot.weight;
            lot.back = (int) ((float) paid * (70.0f - lot.fresh) / 100.0f);
            budgets.set(lot.buyer, budgets.get(lot.buyer) + lot.back);
        }
    }

    public int time() {
        return ticks;
    }

    public int addBuyer(int budget) {
        need(in(budget, 0, 1000000), new IllegalArgumentException());
        need(budgets.size() < 5, new IllegalStateException());
        budgets.add(budget);
        return budgets.size() - 1;
    }

    public int setLimit(int buyer, int species, int limit) {
        needBuyer(buyer);
        need(in(species, 0, 3) && in(limit, 0, 9999), new IllegalArgumentException());
        Integer before = limits.put(buyer * 4 + species, limit);
        return before == null ? 0 : before;
    }

    public int budget(int buyer) {
        needBuyer(buyer);
        return budgets.get(buyer);
    }

    public int setClock(int newStart, int newStep, int newReserve) {
        need(in(newStart, 1, 9999) && in(newStep, 1, 500) && in(newReserve, 0, newStart),
                new IllegalArgumentException());
        int before = start;
        start = newStart;
        step = newStep;
        reserve = newReserve;
        return before;
    }

    public int offer(int buyer, int lot) {
        needBuyer(buyer);
        Lot wanted = needLot(lot);
        int limit = limits.getOrDefault(buyer * 4 + wanted.species, 0);
        return (int) ((double) (limit * (100 + 10 * wanted.size)) / 100.0 * (double) wanted.fresh / 100.0);
    }

    /** The price and the buyer, both found price by price, buyer by buyer. */
    private Optional<int[]> sale(int lot) {
        need(needLot(lot).state == 'f', new IllegalStateException());
        int[] offers = new int[budgets.size()];
        for (int buyer = 0; buyer < offers.length; buyer++) {
            offers[buyer] = offer(buyer, lot);
        }
        for (int shown = start; shown >= reserve; shown -= step) {
            int best = -1;
            for (int buyer = 0; buyer < offers.length; buyer++) {
                boolean takes = offers[buyer] >= shown && budgets.get(buyer) >= shown * lots.get(lot).weight;
                if (takes && (best < 0 || offers[buyer] > offers[best])) {
                    best = buyer;
                }
            }
            if (best >= 0) {
                return Optional.of(new int[] {shown, best});
            }
        }
        return Optional.empty();
    }

    public int price(int lot) {
        return sale(lot).orElseThrow(UnsupportedOperationException::new)[0];
    }

    public int priceByBuyers(int lot) {
        return price(lot);
    }

    public int sell(int lot) {
        int[] sale = sale(lot).orElseThrow(UnsupportedOperationException::new);
        Lot sold = lots.get(lot);
        sold.price = sale[0];
        sold.buyer = sale[1];
        sold.state = 's';
        budgets.set(sold.buyer, budgets.get(sold.buyer) - sold.price * sold.weight);
        return sold.buyer;
    }

    public int buyerOf(int lot) {
        need(needLot(lot).buyer >= 0, new NoSuchElementException());
        return lots.get(lot).buyer;
    }

    public int paidFor(int lot) {
        Lot asked = needLot(lot);
        return asked.price * asked.weight - asked.back;
    }

    public int addTruck(int hour, int room, boolean isClosed) {
        need(in(hour, ticks + 1, 1000) && in(room, 100, 9999), new IllegalArgumentException());
        need(trucks.size() < 4, new IllegalStateException());
        Truck truck = new Truck();
        truck.hour = hour;
        truck.room = room;
        truck.isClosed = isClosed;
        trucks.add(truck);
        return trucks.size() - 1;
    }

    public int load(int lot, int truck) {
        Lot loaded = needLot(lot);
        needTruck(truck);
        Truck loading = trucks.get(truck);
        int room = loading.room - loading.lots.stream().mapToInt(other -> lots.get(other).weight).sum();
        need(loaded.state == 's', new IllegalStateException());
        need(loading.hour > ticks, new IllegalStateException());
        need(loading.lots.size() < 5, new IllegalStateException());
        need(room >= loaded.weight, new IllegalStateException());
        need(!loading.isClosed || loaded.isBoxed, new UnsupportedOperationException());
        loading.lots.add(lot);
        loaded.state = 'l';
        return room - loaded.weight;
    }

    public int lotOn(int truck, int index) {
        needTruck(truck);
        need(in(index, 0, trucks.get(truck).lots.size() - 1), new NoSuchElementException());
        return trucks.get(truck).lots.get(index);
    }

    public long income() {
        return lots.stream().mapToLong(lot -> (long) lot.price * lot.weight - lot.back).sum();
    }

    public long incomeByLots() {
        return income();
    }

    public int spoiled() {
        return lots.stream().filter(lot -> lot.state == 'x').mapToInt(lot -> lot.weight).sum();
    }

    private int soldWeight() {
        return lots.stream().filter(lot -> lot.buyer >= 0).mapToInt(lot -> lot.weight).sum();
    }

    public float soldShare() {
        need(!lots.isEmpty(), new ArithmeticException());
        return (float) soldWeight() / (float) lots.stream().mapToInt(lot -> lot.weight).sum();
    }

    public double meanPrice() {
        need(soldWeight() > 0, new ArithmeticException());
        return (double) income() / (double) soldWeight();
    }

    public long meanBits() {
        return Double.doubleToLongBits(meanPrice());
    }

    public boolean isSound() {
        return true;
    }
}
