import java.util.ArrayList;
import java.util.List;
import java.util.Random;

/** Long runs of calls, drawn from written seeds, on a pier and on DocPier: each answer has to be the same. */
public final class RandomRunsTest {
    private static final int RUNS = 600;
    private static final int CALLS = 512;
    private static final int CALLS_BETWEEN_SNAPSHOTS = 128;

    /** A call's name and the kinds of its arguments, the more often here the more often drawn. */
    private static final String[] CALLS_DRAWN = {
        "addBoat quota quota quota quota",
        "land boat species size catch flag", "land boat species size catch flag", "land boat species size catch flag",
        "moveQuota boat boat species quota", "quota boat species", "quotaAt boat species day", "endDay", "beyond",
        "weight lot", "stateOf lot", "fresh lot", "freshBits lot", "ice lot ice", "ice lot ice", "iceOn lot",
        "iceLasts lot", "tick", "tick", "tick", "time", "addBuyer budget", "setLimit buyer species limit",
        "setLimit buyer species limit", "budget buyer", "setClock start step reserve", "offer buyer lot",
        "price lot", "priceByBuyers lot", "sell lot", "sell lot", "buyerOf lot", "paidFor lot",
        "addTruck hour room flag", "load lot truck", "load lot truck", "load lot truck", "lotOn truck place",
        "income", "incomeByLots", "spoiled", "soldShare", "meanPrice", "meanBits", "isSound",
    };
    private static final int[] ODD = {Integer.MIN_VALUE, -1, 0, 1, 4, 5, 6, 20, 9999, 10000, 1000001, Integer.MAX_VALUE};

    private static final Checks CHECKS = new Checks("RandomRunsTest");

    private RandomRunsTest() {
    }

    public static void main(String[] args) {
        for (int seed = 0; seed < RUNS; seed++) {
            run(seed);
        }
        CHECKS.end();
    }

    private static void run(int seed) {
        Random random = new Random(seed);
        Fishpier pier = new Fishpier();
        DocPier model = new DocPier();
        // Few odd numbers in most runs, so that they come far; many in some.
        int oddOneIn = seed % 5 == 0 ? 4 : 60;
        for (int call = 0; call < CALLS; call++) {
            String drawn = draw(random, call);
            String[] words = drawn.split(" ");
            Object[] arguments = argumentsFor(words, random, oddOneIn, model.time());
            String due = Snapshot.answer(model, words[0], arguments);
            String got = Snapshot.answer(pier, words[0], arguments);
            if (!due.equals(got)) {
                CHECKS.is("seed " + seed + ", call " + call + ", " + words[0] + List.of(arguments), due, got);
                return;
            }
            if (call % CALLS_BETWEEN_SNAPSHOTS == 0) {
                CHECKS.is("seed " + seed + ", all after call " + call, Snapshot.of(model), Snapshot.of(pier));
            }
        }
        CHECKS.is("seed " + seed + ", all at the end", Snapshot.of(model), Snapshot.of(pier));
    }

    /** The first calls make boats, buyers and trucks, so that there is something to ask for. */
    private static String draw(Random random, int call) {
        if (call < 12) {
            String[] first = {"addBoat quota quota quota quota", "addBuyer budget", "addTruck hour room flag"};
            return first[call % 3];
        }
        return CALLS_DRAWN[random.nextInt(CALLS_DRAWN.length)];
    }

    private static Object[] argumentsFor(String[] words, Random random, int oddOneIn, int now) {
        List<Object> arguments = new ArrayList<>();
        for (int i = 1; i < words.length; i++) {
            if (words[i].equals("flag")) {
                arguments.add(random.nextBoolean());
            } else if (random.nextInt(oddOneIn) == 0) {
                arguments.add(ODD[random.nextInt(ODD.length)]);
            } else {
                arguments.add(number(words[i], random, now));
            }
        }
        return arguments.toArray();
    }

    private static int number(String kind, Random random, int now) {
        boolean isSmall = random.nextBoolean();
        switch (kind) {
            case "boat": return random.nextInt(5);
            case "species": return random.nextInt(4);
            case "size": return random.nextInt(3);
            case "lot": return random.nextInt(isSmall ? 8 : 20);
            case "buyer": return random.nextInt(4);
            case "truck": return random.nextInt(4);
            case "place": return random.nextInt(6);
            case "day": return random.nextInt(20);
            case "quota": return random.nextInt(isSmall ? 300 : 4000);
            case "catch": return 1 + random.nextInt(isSmall ? 60 : 1200);
            case "ice": return 1 + random.nextInt(isSmall ? 20 : 400);
            case "budget": return random.nextInt(isSmall ? 20000 : 1000001);
            case "limit": return random.nextInt(isSmall ? 100 : 2000);
            case "start": return 1 + random.nextInt(isSmall ? 200 : 3000);
            case "step": return 1 + random.nextInt(isSmall ? 10 : 100);
            case "reserve": return random.nextInt(isSmall ? 5 : 150);
            case "hour": return now + 1 + random.nextInt(isSmall ? 20 : 60);
            case "room": return 100 + random.nextInt(isSmall ? 300 : 5000);
            default: throw new IllegalArgumentException(kind);
        }
    }
}
