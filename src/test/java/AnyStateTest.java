import java.util.Random;

/** That no call throws, for any arguments in any state: also behind far more calls than an object is used for. */
public final class AnyStateTest {
    private static final int RUNS = 60, CALLS = 8000;
    private static final int[] EDGES = {Integer.MIN_VALUE, Integer.MIN_VALUE + 1, -200, -2, -1, 19, 20, 47, 48, 49, 50, 51, 99,
        100, 101, 199, 200, 201, 999, 1000, 1001, 100000, 100001, Integer.MAX_VALUE - 1, Integer.MAX_VALUE};
    private static final String[] NAMES = {"arch", "set", "about", "isOf", "sheet", "enter", "copy", "lose", "feed", "trim",
        "gift", "purse", "funds", "rule", "spend", "work", "row", "roll", "sum", "spent", "count"};
    private static final String[] GIFTS = {"99 for all", "9999 for works yearly", "7 for arch 0 till 200", "1 for poor from 9"};

    private AnyStateTest() {
    }

    public static void main(String[] args) {
        for (int run = 0; run < RUNS && !Checks.isAnyWrong(); run++) {
            go(new Random(run));
        }
        Checks.end();
    }

    private static void go(Random random) {
        BridgeHouse x = new BridgeHouse();
        for (int i = 0; i < CALLS && !Checks.isAnyWrong(); i++) {
            if (random.nextInt(30) == 0) {
                Checks.write(x, GIFTS[random.nextInt(GIFTS.length)]);
            }
            Call call = some(random);
            Checks.holds("round " + i + " is quiet", isQuiet(x, call));
            Checks.holds("the purses add up behind round " + i, x.sum() == coins(x));
        }
    }

    private static boolean isQuiet(BridgeHouse x, Call call) {
        try {
            call.on(x);
            return true;
        } catch (RuntimeException thrown) {
            System.out.println("  " + call.told() + " threw " + thrown);
            return false;
        }
    }

    /** Years go so seldom that calls come in all of them: three runs of four end in the last one. */
    private static Call some(Random random) {
        String name = random.nextInt(100) == 0 ? "years" : NAMES[random.nextInt(NAMES.length)];
        return new Call(name, number(random), number(random), number(random), number(random), number(random));
    }

    /** Mostly small, so that calls with one wild number get as far as the look at that number. */
    private static int number(Random random) {
        switch (random.nextInt(12)) {
            case 0: return random.nextInt();
            case 1: return EDGES[random.nextInt(EDGES.length)];
            case 2: return random.nextInt(201);
            case 3: case 4: case 5: return random.nextInt(12);
            default: return random.nextInt(4);
        }
    }

    private static int coins(BridgeHouse x) {
        int coins = 0;
        for (int p = 0; p < x.count(2); p++) {
            coins += x.purse(p, 6) - x.purse(p, 7);
            for (int end = 0; end < 2 + x.count(0); end++) {
                coins -= x.spent(p, end);
            }
        }
        return coins;
    }
}
