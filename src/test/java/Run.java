import java.nio.charset.StandardCharsets;
import java.util.ArrayList;
import java.util.List;

/**
 * A run of calls on a new object, under the sentence of the document that it tests. Each answer is held against the one
 * that is due, and of each refused call it is looked at that it changed nothing.
 */
final class Run {
    static final int MOST_CALLS = 512;

    private final String sentence;
    private final BridgeHouse x = new BridgeHouse();
    private final List<Call> past = new ArrayList<>();

    Run(String sentence) {
        this.sentence = sentence;
    }

    Run due(int want, String name, int... v) {
        Call call = new Call(name, v);
        int got = call.on(x);
        Checks.due("[" + sentence + "] call " + (past.size() + 1) + ", " + call.told() + ",", got, want);
        if (call.isRefusal(got)) {
            Checks.holds("[" + sentence + "] " + call.told() + " behind " + past.size() + " calls changed nothing",
                Unchanged.isUnchanged(past, call));
        }
        past.add(call);
        Checks.holds("[" + sentence + "] has at most " + MOST_CALLS + " calls", past.size() <= MOST_CALLS);
        return this;
    }

    /** A call that is only on the way to the edge: its answer is not looked at, but it must not be refused. */
    Run does(String name, int... v) {
        Call call = new Call(name, v);
        int got = call.on(x);
        past.add(call);
        Checks.holds("[" + sentence + "] " + call.told() + " was refused: " + got, !call.isRefusal(got));
        Checks.holds("[" + sentence + "] has at most " + MOST_CALLS + " calls", past.size() <= MOST_CALLS);
        return this;
    }

    Run arches(int... kinds) {
        for (int kind : kinds) {
            does("arch", kind);
        }
        return this;
    }

    Run passes(int years) {
        for (int left = years; left > 0; left -= 50) {
            does("years", Math.min(50, left));
        }
        return this;
    }

    /** The tape has this text and nothing else. */
    Run writes(String text) {
        byte[] bytes = text.getBytes(StandardCharsets.ISO_8859_1);
        does("trim", 0);
        for (int at = 0; at < bytes.length; at += 12) {
            does("feed", Checks.four(bytes, at), Checks.four(bytes, at + 4), Checks.four(bytes, at + 8));
        }
        return does("trim", bytes.length);
    }

    Run gives(int want, String text) {
        return writes(text).due(want, "gift").due(0, "count", 5);
    }

    /** what 0, 1, 2 .. of a purse are these. */
    Run purseIs(int purse, int... due) {
        for (int what = 0; what < due.length; what++) {
            due(due[what], "purse", purse, what);
        }
        return this;
    }

    Run rowIs(int i, int year, int purse, int end, int coins) {
        return due(year, "row", i, 0).due(purse, "row", i, 1).due(end, "row", i, 2).due(coins, "row", i, 3);
    }
}
