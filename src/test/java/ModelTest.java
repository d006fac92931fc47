import java.nio.charset.StandardCharsets;
import java.util.ArrayList;
import java.util.List;
import java.util.Random;

/** Random runs of calls, each answer held against the one of Model; what is refused must change nothing. */
public final class ModelTest {
    private static final int RUNS = 600, LONGEST_TURN = 8;
    private static final int[] EDGES = {Integer.MIN_VALUE, -1000000001, -101, -1, 0, 1, 2, 10, 19, 20, 48, 100, 101, 199,
        200, 201, 1000, 1001, 100000, 100001, Integer.MAX_VALUE};
    private static final String[] WORDS = {"for", "all", "works", "poor", "chapel", "arch", "from", "till", "yearly", "x",
        "0", "1", "5", "200", "201", "9999", "10000", "0007", "fo", "-1", "al\0"};

    private final Random random;
    private final BridgeHouse house = new BridgeHouse();
    private final Model model = new Model();
    private final List<Call> past = new ArrayList<>();

    private ModelTest(long seed) {
        random = new Random(seed);
    }

    public static void main(String[] args) {
        for (int run = 0; run < RUNS && !Checks.isAnyWrong(); run++) {
            new ModelTest(run).go(run);
        }
        Checks.end();
    }

    private void go(int run) {
        begin(run);
        while (past.size() <= Run.MOST_CALLS - LONGEST_TURN && !Checks.isAnyWrong()) {
            int answer = one(random.nextInt(100));
            Call last = past.get(past.size() - 1);
            // Behind a long past few questions have room, so that very many objects would be needed.
            if (past.size() < 300 && random.nextInt(8) == 0 && last.isRefusal(answer)) {
                Checks.holds("a refused call changes nothing: " + last.told(),
                    Unchanged.isUnchanged(past.subList(0, past.size() - 1), last));
            }
        }
        if (Checks.isAnyWrong()) {
            System.out.println("  run " + run + ", its last calls:");
            past.subList(Math.max(0, past.size() - 12), past.size()).forEach(c -> System.out.println("    " + c.told()));
        }
    }

    /** Some runs start with a bridge that is rich and long-lived, so that books fill and purses run dry. */
    private void begin(int run) {
        if (run % 4 == 0) {
            return;
        }
        int arches = 1 + random.nextInt(10);
        for (int a = 0; a < arches; a++) {
            held("arch", random.nextInt(4));
            held("set", a, 0, random.nextInt(5));
            held("set", a, 1, random.nextInt(2));
        }
        for (int s = 0; s < 4; s++) {
            held("sheet", s, random.nextInt(3), random.nextInt(201));
            for (int i = 0; i < 12; i++) {
                held("enter", s, random.nextInt(24), random.nextInt(run % 4 == 1 ? 10 : 101));
            }
            for (int at = 24; at < 192; at *= 2) {
                held("copy", s, 0, s, at, at);
            }
        }
        for (int which = 0; which < 6; which++) {
            held("rule", which, which == 5 ? random.nextInt(1001) : random.nextInt(11));
        }
    }

    private int some(int usual) {
        return random.nextInt(16) == 0 ? EDGES[random.nextInt(EDGES.length)] : random.nextInt(usual);
    }

    private int one(int dice) {
        int arches = Math.max(1, model.count(0));
        if (dice < 4) return held("arch", some(4));
        if (dice < 9) return dice % 2 == 0 ? held("set", some(arches), 0, some(5)) : held("set", some(arches), 1, some(2));
        if (dice < 19) return held("about", some(arches), some(8));
        if (dice < 21) return held("isOf", some(arches), some(4));
        if (dice < 24) return held("sheet", some(4), some(3), some(201));
        if (dice < 31) return held("enter", some(4), some(60), some(102));
        if (dice < 36) return held("copy", some(4), some(30), some(4), some(30), some(40));
        if (dice < 37) return held("lose", some(4));
        if (dice < 39) return held("feed", random.nextInt(), random.nextInt(), random.nextInt());
        if (dice < 40) return held("trim", some(49));
        if (dice < 50) return writeGift();
        if (dice < 57) return held("purse", some(20), some(8));
        if (dice < 61) return held("funds", some(2 + arches));
        if (dice < 64) return dice == 61 ? held("rule", 5, some(1001)) : held("rule", some(6), some(12));
        if (dice < 70) return held("spend", some(2), 1 + some(40));
        if (dice < 78) return held("work", some(arches), 1 + some(30));
        if (dice < 82) return held("years", 1 + some(4));
        if (dice < 88) return held("row", some(200), some(4));
        if (dice < 91) return held("roll", random.nextBoolean() ? model.count(4) : some(201), some(7));
        if (dice < 93) return held("sum");
        if (dice < 96) return held("spent", some(20), some(2 + arches));
        return held("count", some(8));
    }

    private String giftText() {
        StringBuilder text = new StringBuilder();
        text.append(1 + random.nextInt(random.nextBoolean() ? 9999 : 60)).append(" for ");
        String end = WORDS[1 + random.nextInt(5)];
        text.append(end).append(end.equals("arch") ? " " + random.nextInt(4) : "");
        int year = model.count(4);
        int from = Math.max(0, year + random.nextInt(8) - 4);
        text.append(random.nextBoolean() ? " from " + from : "");
        text.append(random.nextBoolean() ? " till " + (from + random.nextInt(12)) : "");
        text.append(random.nextBoolean() ? " yearly" : "");
        return text.toString();
    }

    private String spoilt(String text) {
        List<String> words = new ArrayList<>(List.of(text.split(" ")));
        int at = random.nextInt(words.size());
        String other = WORDS[random.nextInt(WORDS.length)];
        switch (random.nextInt(5)) {
            case 0 -> words.set(at, other);
            case 1 -> words.add(at, other);
            case 2 -> words.remove(at);
            case 3 -> words.add(other);
            default -> words.subList(at, words.size()).clear();
        }
        String joined = String.join(random.nextBoolean() ? " " : "  ", words);
        return " ".repeat(random.nextInt(2)) + joined + " ".repeat(random.nextInt(3));
    }

    private int writeGift() {
        String text = giftText();
        if (random.nextInt(3) == 0) {
            text = spoilt(text);
        }
        text = text.substring(0, Math.min(48, text.length()));
        held("trim", 0);
        byte[] bytes = text.getBytes(StandardCharsets.ISO_8859_1);
        for (int at = 0; at < bytes.length; at += 12) {
            held("feed", Checks.four(bytes, at), Checks.four(bytes, at + 4), Checks.four(bytes, at + 8));
        }
        held("trim", text.length());
        return held("gift");
    }

    private int held(String name, int... v) {
        Call call = new Call(name, v);
        int want = ofModel(name, v);
        int got = call.on(house);
        past.add(call);
        Checks.due(call.told(), got, want);
        return got;
    }

    private int ofModel(String name, int[] v) {
        return switch (name) {
            case "arch" -> model.arch(v[0]);
            case "set" -> model.set(v[0], v[1], v[2]);
            case "about" -> model.about(v[0], v[1]);
            case "isOf" -> model.isOf(v[0], v[1]);
            case "sheet" -> model.sheet(v[0], v[1], v[2]);
            case "enter" -> model.enter(v[0], v[1], v[2]);
            case "copy" -> model.copy(v[0], v[1], v[2], v[3], v[4]);
            case "lose" -> model.lose(v[0]);
            case "feed" -> model.feed(v[0], v[1], v[2]);
            case "trim" -> model.trim(v[0]);
            case "gift" -> model.gift();
            case "purse" -> model.purse(v[0], v[1]);
            case "funds" -> model.funds(v[0]);
            case "rule" -> model.rule(v[0], v[1]);
            case "spend" -> model.spend(v[0], v[1]);
            case "work" -> model.work(v[0], v[1]);
            case "years" -> model.years(v[0]);
            case "row" -> model.row(v[0], v[1]);
            case "roll" -> model.roll(v[0], v[1]);
            case "sum" -> model.sum();
            case "spent" -> model.spent(v[0], v[1]);
            default -> model.count(v[0]);
        };
    }
}
