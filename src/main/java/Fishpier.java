import java.util.NoSuchElementException;

/** The desk of a fish auction; ../shared/DOC.md says what each call promises. */
public final class Fishpier {
    private static final int MAX_BOATS = 6;
    private static final int MAX_LOTS = 20;
    private static final int MAX_BUYERS = 5;
    private static final int MAX_TRUCKS = 4;
    private static final int MAX_LOTS_ON_TRUCK = 5;
    private static final int SPECIES = 4;
    private static final int LARGEST_SIZE = 2;
    private static final int LAST_DAY = 19;

    private static final int MAX_QUOTA = 9999;
    private static final int MAX_LANDING = 2000;
    private static final int MAX_ICE = 999;
    private static final int MAX_BUDGET = 1000000;
    private static final int MAX_LIMIT = 9999;
    private static final int MAX_START = 9999;
    private static final int MAX_STEP = 500;
    private static final int MAX_HOUR = 1000;
    private static final int MIN_ROOM = 100;
    private static final int MAX_ROOM = 9999;

    private static final char FOR_SALE = 'f';
    private static final char SOLD = 's';
    private static final char LOADED = 'l';
    private static final char DELIVERED = 'd';
    private static final char SPOILED = 'x';

    /** Below every price that the clock can show. */
    private static final int NO_PRICE = -1;

    private final Boat[] boats = new Boat[MAX_BOATS];
    private final Lot[] lots = new Lot[MAX_LOTS];
    private final Buyer[] buyers = new Buyer[MAX_BUYERS];
    private final Truck[] trucks = new Truck[MAX_TRUCKS];
    private int boatCount = 0;
    private int lotCount = 0;
    private int buyerCount = 0;
    private int truckCount = 0;
    private int now = 0;
    private int today = 0;
    private int beyondQuotas = 0;
    private int clockStart = 1000;
    private int clockStep = 10;
    private int clockReserve = 0;
    private long takings = 0L;

    public Fishpier() {
    }

    // Boats and days

    public int addBoat(int first, int second, int third, int fourth)
            throws IllegalArgumentException, IllegalStateException {
        if (!isQuota(first) || !isQuota(second) || !isQuota(third) || !isQuota(fourth)) {
            throw new IllegalArgumentException("a quota is out of range");
        }
        if (boatCount >= boats.length) {
            throw new IllegalStateException("no more boats");
        }
        int number = boatCount;
        boats[number] = new Boat(number, first, second, third, fourth);
        boatCount = number + 1;
        return number;
    }

    public int land(int boat, int species, int size, int kilograms, boolean isBoxed)
            throws IndexOutOfBoundsException, IllegalArgumentException, IllegalStateException,
                    UnsupportedOperationException {
        Boat landing = boatNumbered(boat);
        if (!isSpecies(species) || !isWithin(size, 0, LARGEST_SIZE) || !isWithin(kilograms, 1, MAX_LANDING)) {
            throw new IllegalArgumentException("the species, the size or the weight is out of range");
        }
        if (lotCount >= lots.length) {
            throw new IllegalStateException("no more lots");
        }
        if (landing.left[species] == 0) {
            throw new UnsupportedOperationException("the quota is 0");
        }
        int drawn = Math.min(kilograms, landing.left[species]);
        int number = lotCount;
        lots[number] = new Lot(number, boat, species, size, drawn, isBoxed);
        lotCount = number + 1;
        landing.left[species] -= drawn;
        beyondQuotas += kilograms - drawn;
        return number;
    }

    public int moveQuota(int from, int to, int species, int kilograms)
            throws IndexOutOfBoundsException, IllegalArgumentException, IllegalStateException {
        Boat giver = boatNumbered(from);
        Boat taker = boatNumbered(to);
        if (from == to || !isSpecies(species) || !isWithin(kilograms, 1, MAX_QUOTA)) {
            throw new IllegalArgumentException("the boats are the same, or a number is out of range");
        }
        if (giver.left[species] < kilograms) {
            throw new IllegalStateException("the quota is less");
        }
        giver.changeQuota(species, -kilograms);
        taker.changeQuota(species, kilograms);
        return giver.left[species];
    }

    public int quota(int boat, int species) throws IndexOutOfBoundsException, IllegalArgumentException {
        Boat asked = boatNumbered(boat);
        checkSpecies(species);
        return asked.left[species];
    }

    public int quotaAt(int boat, int species, int day)
            throws IndexOutOfBoundsException, IllegalArgumentException, NoSuchElementException {
        Boat asked = boatNumbered(boat);
        checkSpecies(species);
        if (day < 0 || day >= today) {
            throw new NoSuchElementException("the day has not ended");
        }
        return asked.leftAtEnd(day, species);
    }

    public int endDay() throws IllegalStateException {
        if (today >= LAST_DAY) {
            throw new IllegalStateException("it is the last day");
        }
        for (Boat boat : boats) {
            if (boat != null) {
                boat.writeDown(today);
            }
        }
        today++;
        return today;
    }

    public int beyond() {
        return beyondQuotas;
    }

    // Lots and time

    public int weight(int lot) throws NoSuchElementException {
        return lotNumbered(lot).kilograms;
    }

    public char stateOf(int lot) throws NoSuchElementException {
        return lotNumbered(lot).state;
    }

    public float fresh(int lot) throws NoSuchElementException {
        return lotNumbered(lot).freshness;
    }

    public int freshBits(int lot) throws NoSuchElementException {
        return bitsOfFreshness(lotNumbered(lot).freshness);
    }

    public int ice(int lot, int kilograms)
            throws NoSuchElementException, IllegalArgumentException, IllegalStateException {
        Lot iced = lotNumbered(lot);
        if (!isWithin(kilograms, 1, MAX_ICE)) {
            throw new IllegalArgumentException("the ice is out of range");
        }
        if (!iced.isAtPier()) {
            throw new IllegalStateException("the lot is delivered or spoiled");
        }
        iced.iceKilograms += kilograms;
        return iced.iceKilograms;
    }

    public int iceOn(int lot) throws NoSuchElementException {
        return lotNumbered(lot).iceKilograms;
    }

    public int iceLasts(int lot) throws NoSuchElementException {
        return lotNumbered(lot).ticksOfIce();
    }

    public int tick() {
        for (Lot lot : lots) {
            if (lot != null && lot.isAtPier()) {
                lot.age();
            }
        }
        now++;
        int leaving = 0;
        for (Truck truck : trucks) {
            if (truck != null && truck.hour == now) {
                deliverAll(truck);
                leaving++;
            }
        }
        return leaving;
    }

    public int time() {
        return now;
    }

    // Buyers and the clock

    public int addBuyer(int budget) throws IllegalArgumentException, IllegalStateException {
        if (!isWithin(budget, 0, MAX_BUDGET)) {
            throw new IllegalArgumentException("the budget is out of range");
        }
        if (buyerCount >= buyers.length) {
            throw new IllegalStateException("no more buyers");
        }
        int number = buyerCount;
        buyers[number] = new Buyer(number, budget);
        buyerCount = number + 1;
        return number;
    }

    public int setLimit(int buyer, int species, int limit)
            throws IndexOutOfBoundsException, IllegalArgumentException {
        Buyer limited = buyerNumbered(buyer);
        if (!isSpecies(species) || !isWithin(limit, 0, MAX_LIMIT)) {
            throw new IllegalArgumentException("the species or the limit is out of range");
        }
        int before = limited.limits[species];
        limited.limits[species] = limit;
        return before;
    }

    public int budget(int buyer) throws IndexOutOfBoundsException {
        return buyerNumbered(buyer).money;
    }

    public int setClock(int start, int step, int reserve) throws IllegalArgumentException {
        if (!isWithin(start, 1, MAX_START) || !isWithin(step, 1, MAX_STEP) || !isWithin(reserve, 0, start)) {
            throw new IllegalArgumentException("the start, the step or the reserve is out of range");
        }
        int before = clockStart;
        clockStart = start;
        clockStep = step;
        clockReserve = reserve;
        return before;
    }

    public int offer(int buyer, int lot) throws IndexOutOfBoundsException, NoSuchElementException {
        Buyer offering = buyerNumbered(buyer);
        return offering.offerFor(lotNumbered(lot));
    }

    public int price(int lot)
            throws NoSuchElementException, IllegalStateException, UnsupportedOperationException {
        int found = priceOnClock(lotForSale(lot));
        if (found == NO_PRICE) {
            throw new UnsupportedOperationException("the lot would not be sold");
        }
        return found;
    }

    public int priceByBuyers(int lot)
            throws NoSuchElementException, IllegalStateException, UnsupportedOperationException {
        int found = priceFromBuyers(lotForSale(lot));
        if (found == NO_PRICE) {
            throw new UnsupportedOperationException("the lot would not be sold");
        }
        return found;
    }

    public int sell(int lot)
            throws NoSuchElementException, IllegalStateException, UnsupportedOperationException {
        Lot offered = lotForSale(lot);
        int found = priceOnClock(offered);
        Buyer winner = found == NO_PRICE ? null : bestTaker(offered, found);
        if (winner == null) {
            throw new UnsupportedOperationException("the lot is not sold");
        }
        int money = found * offered.kilograms;
        winner.money -= money;
        offered.state = SOLD;
        offered.owner = winner;
        offered.paid = money;
        takings += money;
        return winner.number;
    }

    public int buyerOf(int lot) throws NoSuchElementException {
        Buyer owner = lotNumbered(lot).owner;
        if (owner == null) {
            throw new NoSuchElementException("the lot was not sold");
        }
        return owner.number;
    }

    public int paidFor(int lot) throws NoSuchElementException {
        return lotNumbered(lot).paid;
    }

    // Trucks

    public int addTruck(int hour, int room, boolean isClosed)
            throws IllegalArgumentException, IllegalStateException {
        if (hour <= now || hour > MAX_HOUR || !isWithin(room, MIN_ROOM, MAX_ROOM)) {
            throw new IllegalArgumentException("the hour or the room is out of range");
        }
        if (truckCount >= trucks.length) {
            throw new IllegalStateException("no more trucks");
        }
        int number = truckCount;
        trucks[number] = new Truck(hour, room, isClosed);
        truckCount = number + 1;
        return number;
    }

    public int load(int lot, int truck)
            throws NoSuchElementException, IndexOutOfBoundsException, IllegalStateException,
                    UnsupportedOperationException {
        Lot freight = lotNumbered(lot);
        Truck loaded = truckNumbered(truck);
        if (freight.state != SOLD || loaded.hour <= now || !loaded.hasPlaceFor(freight)) {
            throw new IllegalStateException("the lot cannot be loaded, or the truck cannot take it");
        }
        if (loaded.isClosed && !freight.isBoxed) {
            throw new UnsupportedOperationException("a closed truck takes no loose lot");
        }
        loaded.take(freight);
        return loaded.roomLeft;
    }

    public int lotOn(int truck, int index) throws IndexOutOfBoundsException, NoSuchElementException {
        Lot[] freight = truckNumbered(truck).freight;
        if (index < 0 || index >= freight.length || freight[index] == null) {
            throw new NoSuchElementException("no such lot on the truck");
        }
        return freight[index].number;
    }

    // Sums

    public long income() {
        return takings;
    }

    public long incomeByLots() {
        long sum = 0L;
        for (Lot lot : lots) {
            if (lot != null) {
                sum += lot.paid;
            }
        }
        return sum;
    }

    public int spoiled() {
        int sum = 0;
        for (Lot lot : lots) {
            if (lot != null && lot.state == SPOILED) {
                sum += lot.kilograms;
            }
        }
        return sum;
    }

    public float soldShare() throws ArithmeticException {
        int all = weightOfAllLots();
        if (all == 0) {
            throw new ArithmeticException("there are no lots");
        }
        return (float) weightOfSoldLots() / (float) all;
    }

    public double meanPrice() throws ArithmeticException {
        return meanOfSoldKilograms();
    }

    public long meanBits() throws ArithmeticException {
        return bitsOfMean(meanOfSoldKilograms());
    }

    public boolean isSound() {
        return takings == incomeByLots() && arePricesSound() && areQuotasSound();
    }

    // What the calls share

    private Boat boatNumbered(int number) throws IndexOutOfBoundsException {
        if (number < 0 || number >= boats.length || boats[number] == null) {
            throw new IndexOutOfBoundsException("no such boat");
        }
        return boats[number];
    }

    private Lot lotNumbered(int number) throws NoSuchElementException {
        if (number < 0 || number >= lots.length || lots[number] == null) {
            throw new NoSuchElementException("no such lot");
        }
        return lots[number];
    }

    private Lot lotForSale(int number) throws NoSuchElementException, IllegalStateException {
        Lot lot = lotNumbered(number);
        if (lot.state != FOR_SALE) {
            throw new IllegalStateException("the lot is not for sale");
        }
        return lot;
    }

    private Buyer buyerNumbered(int number) throws IndexOutOfBoundsException {
        if (number < 0 || number >= buyers.length || buyers[number] == null) {
            throw new IndexOutOfBoundsException("no such buyer");
        }
        return buyers[number];
    }

    private Truck truckNumbered(int number) throws IndexOutOfBoundsException {
        if (number < 0 || number >= trucks.length || trucks[number] == null) {
            throw new IndexOutOfBoundsException("no such truck");
        }
        return trucks[number];
    }

    private static void checkSpecies(int species) throws IllegalArgumentException {
        if (!isSpecies(species)) {
            throw new IllegalArgumentException("the species is out of range");
        }
    }

    private static boolean isSpecies(int number) {
        return isWithin(number, 0, SPECIES - 1);
    }

    private static boolean isQuota(int kilograms) {
        return isWithin(kilograms, 0, MAX_QUOTA);
    }

    private static boolean isWithin(int number, int least, int most) {
        return number >= least && number <= most;
    }

    /** Lets the clock fall and answers the price at which somebody takes the lot, or NO_PRICE. */
    private int priceOnClock(Lot lot) {
        int greatestOffer = greatestOfferFor(lot);
        // Counted, so that the loop ends whatever the step is.
        for (int falls = 0; falls <= MAX_START; falls++) {
            int shown = clockStart - falls * clockStep;
            if (shown < clockReserve) {
                return NO_PRICE;
            }
            // Nobody need be asked while the clock is above all offers.
            if (shown <= greatestOffer && bestTaker(lot, shown) != null) {
                return shown;
            }
        }
        return NO_PRICE;
    }

    private int greatestOfferFor(Lot lot) {
        int greatest = NO_PRICE;
        for (Buyer buyer : buyers) {
            if (buyer != null) {
                greatest = Math.max(greatest, buyer.offerFor(lot));
            }
        }
        return greatest;
    }

    /** The buyer to whom the lot goes at this price, or null. */
    private Buyer bestTaker(Lot lot, int shown) {
        Buyer best = null;
        int bestOffer = NO_PRICE;
        for (Buyer buyer : buyers) {
            if (buyer != null && buyer.money >= shown * lot.kilograms) {
                int offered = buyer.offerFor(lot);
                // Only a greater offer replaces one, so that the lowest number keeps the lot.
                if (offered >= shown && offered > bestOffer) {
                    best = buyer;
                    bestOffer = offered;
                }
            }
        }
        return best;
    }

    /** The same price as priceOnClock, reckoned without letting the clock fall. */
    private int priceFromBuyers(Lot lot) {
        int greatest = NO_PRICE;
        for (Buyer buyer : buyers) {
            if (buyer != null) {
                greatest = Math.max(greatest, greatestShownUpTo(buyer.mostFor(lot)));
            }
        }
        return greatest;
    }

    /** The greatest price on the clock that is not above this one, or NO_PRICE. */
    private int greatestShownUpTo(int most) {
        if (most >= clockStart) {
            return clockStart;
        }
        if (clockStep < 1) {
            return NO_PRICE;
        }
        int falls = (clockStart - most + clockStep - 1) / clockStep;
        int shown = clockStart - falls * clockStep;
        return shown < clockReserve ? NO_PRICE : shown;
    }

    private void deliverAll(Truck truck) {
        for (Lot lot : truck.freight) {
            if (lot != null) {
                lot.state = DELIVERED;
                giveMoneyBack(lot);
            }
        }
    }

    private void giveMoneyBack(Lot lot) {
        Buyer owner = lot.owner;
        if (owner == null || lot.freshness >= 70.0f) {
            return;
        }
        int back = (int) ((float) lot.paid * (70.0f - lot.freshness) / 100.0f);
        owner.money += back;
        lot.paid -= back;
        takings -= back;
    }

    private int weightOfAllLots() {
        int sum = 0;
        for (Lot lot : lots) {
            if (lot != null) {
                sum += lot.kilograms;
            }
        }
        return sum;
    }

    private int weightOfSoldLots() {
        int sum = 0;
        for (Lot lot : lots) {
            if (lot != null && lot.wasSold()) {
                sum += lot.kilograms;
            }
        }
        return sum;
    }

    private double meanOfSoldKilograms() throws ArithmeticException {
        int kilograms = weightOfSoldLots();
        if (kilograms == 0) {
            throw new ArithmeticException("no lot was sold");
        }
        return (double) takings / (double) kilograms;
    }

    private boolean arePricesSound() {
        for (Lot lot : lots) {
            if (lot != null && lot.state == FOR_SALE && priceOnClock(lot) != priceFromBuyers(lot)) {
                return false;
            }
        }
        return true;
    }

    private boolean areQuotasSound() {
        for (Boat boat : boats) {
            if (boat != null && !isQuotaSound(boat)) {
                return false;
            }
        }
        return true;
    }

    private boolean isQuotaSound(Boat boat) {
        for (int species = 0; species < SPECIES; species++) {
            if (boat.left[species] + landedBy(boat, species) != boat.given[species]) {
                return false;
            }
        }
        return true;
    }

    private int landedBy(Boat boat, int species) {
        int sum = 0;
        for (Lot lot : lots) {
            if (lot != null && lot.boatNumber == boat.number && lot.species == species) {
                sum += lot.kilograms;
            }
        }
        return sum;
    }

    /**
     * The bits of a float by hand, since Float.floatToIntBits is no part of the language that the program
     * keeps to. A freshness is greater than 0 and far from the smallest floats, so each step is exact.
     */
    private static int bitsOfFreshness(float freshness) {
        float fraction = freshness;
        int exponent = 0;
        while (fraction >= 2.0f && exponent < 127) {
            fraction = fraction / 2.0f;
            exponent++;
        }
        while (fraction < 1.0f && exponent > -126) {
            fraction = fraction * 2.0f;
            exponent--;
        }
        return ((exponent + 127) << 23) + (int) ((fraction - 1.0f) * 8388608.0f);
    }

    /** The same for a double; a mean price is 0.0, or not less than 1.0 divided by the weight of all lots. */
    private static long bitsOfMean(double mean) {
        if (mean == 0.0) {
            return 0L;
        }
        double fraction = mean;
        int exponent = 0;
        while (fraction >= 2.0 && exponent < 1023) {
            fraction = fraction / 2.0;
            exponent++;
        }
        while (fraction < 1.0 && exponent > -1022) {
            fraction = fraction * 2.0;
            exponent--;
        }
        return ((long) (exponent + 1023) << 52) + (long) ((fraction - 1.0) * 4503599627370496.0);
    }

    private static final class Boat {
        final int number;
        final int[] left = new int[SPECIES];
        final int[] given = new int[SPECIES];
        // A day that ended before the boat came keeps the 0 that is due for it.
        final int[] written = new int[LAST_DAY * SPECIES];

        Boat(int number, int first, int second, int third, int fourth) {
            this.number = number;
            left[0] = first;
            left[1] = second;
            left[2] = third;
            left[3] = fourth;
            System.arraycopy(left, 0, given, 0, SPECIES);
        }

        void changeQuota(int species, int kilograms) {
            left[species] += kilograms;
            given[species] += kilograms;
        }

        void writeDown(int day) {
            System.arraycopy(left, 0, written, day * SPECIES, SPECIES);
        }

        int leftAtEnd(int day, int species) {
            return written[day * SPECIES + species];
        }
    }

    private static final class Lot {
        final int number;
        final int boatNumber;
        final int species;
        final int size;
        final int kilograms;
        final boolean isBoxed;
        char state = FOR_SALE;
        float freshness = 100.0f;
        int iceKilograms = 0;
        Buyer owner = null;
        int paid = 0;

        Lot(int number, int boatNumber, int species, int size, int kilograms, boolean isBoxed) {
            this.number = number;
            this.boatNumber = boatNumber;
            this.species = species;
            this.size = size;
            this.kilograms = kilograms;
            this.isBoxed = isBoxed;
        }

        boolean isAtPier() {
            return state == FOR_SALE || state == SOLD || state == LOADED;
        }

        boolean wasSold() {
            return state == SOLD || state == LOADED || state == DELIVERED;
        }

        int iceForOneTick() {
            return (kilograms + 9) / 10;
        }

        int ticksOfIce() {
            int need = iceForOneTick();
            return need < 1 ? 0 : iceKilograms / need;
        }

        void age() {
            int need = iceForOneTick();
            if (iceKilograms >= need) {
                iceKilograms -= need;
                freshness = freshness * 0.995f;
            } else {
                freshness = freshness * 0.98f;
            }
            if (freshness < 30.0f && state == FOR_SALE) {
                state = SPOILED;
            }
        }
    }

    private static final class Buyer {
        final int number;
        final int[] limits = new int[SPECIES];
        int money;

        Buyer(int number, int money) {
            this.number = number;
            this.money = money;
        }

        int offerFor(Lot lot) {
            int percent = 100 + 10 * lot.size;
            return (int) ((double) (limits[lot.species] * percent) / 100.0 * (double) lot.freshness / 100.0);
        }

        /** The greatest price for a kilogram that the buyer would and could pay for all of the lot. */
        int mostFor(Lot lot) {
            if (lot.kilograms < 1) {
                return NO_PRICE;
            }
            return Math.min(offerFor(lot), money / lot.kilograms);
        }
    }

    private static final class Truck {
        final int hour;
        final boolean isClosed;
        final Lot[] freight = new Lot[MAX_LOTS_ON_TRUCK];
        int loadedLots = 0;
        int roomLeft;

        Truck(int hour, int room, boolean isClosed) {
            this.hour = hour;
            this.roomLeft = room;
            this.isClosed = isClosed;
        }

        boolean hasPlaceFor(Lot lot) {
            return loadedLots < freight.length && lot.kilograms <= roomLeft;
        }

        void take(Lot lot) {
            freight[loadedLots] = lot;
            loadedLots++;
            roomLeft -= lot.kilograms;
            lot.state = LOADED;
        }
    }
}
