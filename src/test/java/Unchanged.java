import java.util.ArrayList;
import java.util.List;

/**
 * Whether a refused call left an object as it was: of two objects with one past, one of which was asked for the call,
 * both answer alike whatever they are asked then. Each question is put to new objects, as none may have more than 512
 * calls.
 */
final class Unchanged {
    private static final List<Call> READING = reading();
    private static final List<List<Call>> DOING = doing();

    private Unchanged() {
    }

    static boolean isUnchanged(List<Call> past, Call refused) {
        List<Call> with = new ArrayList<>(past);
        with.add(refused);
        List<Call> without = new ArrayList<>(past);
        if (refused.name().equals("gift")) {
            // The one act that uses up the tape, whatever it answers.
            without.add(new Call("trim", 0));
        }
        return areAlike(with, without);
    }

    /** Whether objects of two pasts answer alike whatever they are asked. */
    static boolean areAlike(List<Call> with, List<Call> without) {
        int room = Run.MOST_CALLS - Math.max(with.size(), without.size());
        for (int at = 0; at < READING.size() && room > 0; at += room) {
            if (!areAlike(with, without, READING.subList(at, Math.min(READING.size(), at + room)))) {
                return false;
            }
        }
        for (List<Call> calls : DOING) {
            if (!areAlike(with, without, calls.subList(0, Math.min(calls.size(), room)))) {
                return false;
            }
        }
        return true;
    }

    private static boolean areAlike(List<Call> with, List<Call> without, List<Call> asked) {
        BridgeHouse x = after(with);
        BridgeHouse y = after(without);
        for (Call call : asked) {
            int got = call.on(x);
            int want = call.on(y);
            if (got != want) {
                System.out.println("  " + call.told() + " answers " + got + " behind it, " + want + " without it");
                return false;
            }
        }
        return true;
    }

    private static BridgeHouse after(List<Call> past) {
        BridgeHouse x = new BridgeHouse();
        for (Call call : past) {
            call.on(x);
        }
        return x;
    }

    /** All that can be asked without a change. */
    private static List<Call> reading() {
        List<Call> all = new ArrayList<>();
        all.add(new Call("sum"));
        for (int what = 0; what < 8; what++) {
            all.add(new Call("count", what));
            askEach(all, "about", 10, what);
            askEach(all, "purse", 20, what);
        }
        for (int end = 0; end < 12; end++) {
            all.add(new Call("funds", end));
            askEach(all, "spent", 20, end);
        }
        for (int what = 0; what < 7; what++) {
            askEach(all, "roll", 201, what);
        }
        for (int what = 0; what < 4; what++) {
            askEach(all, "row", 200, what);
        }
        return all;
    }

    private static void askEach(List<Call> all, String name, int many, int what) {
        for (int i = 0; i < many; i++) {
            all.add(new Call(name, i, what));
        }
    }

    /** What only shows by acts: the rules, the sheets' places and widths, the bytes of the tape, and what comes by years. */
    private static List<List<Call>> doing() {
        List<List<Call>> all = new ArrayList<>();
        List<Call> rules = new ArrayList<>();
        for (int which = 0; which < 6; which++) {
            rules.add(new Call("rule", which, 0));
        }
        all.add(rules);
        for (int s = 0; s < 4; s++) {
            all.add(places(s));
            all.add(widths(s));
        }
        all.add(tape());
        all.add(yearsToCome(1, 5));
        all.add(yearsToCome(40, 3));
        return all;
    }

    private static List<Call> places(int s) {
        List<Call> calls = new ArrayList<>();
        for (int place = 0; place < 200; place++) {
            calls.add(new Call("enter", s, place, 0));
        }
        calls.add(new Call("lose", s));
        return calls;
    }

    private static List<Call> widths(int s) {
        List<Call> calls = new ArrayList<>();
        int other = (s + 1) % 4;
        for (int width = 0; width < 3; width++) {
            calls.add(new Call("sheet", other, width, 0));
            calls.add(new Call("copy", s, 0, other, 0, 0));
        }
        return calls;
    }

    private static List<Call> tape() {
        List<Call> calls = new ArrayList<>();
        calls.add(new Call("gift"));
        for (int what = 0; what < 8; what++) {
            askEach(calls, "purse", 20, what);
        }
        return calls;
    }

    private static List<Call> yearsToCome(int step, int steps) {
        List<Call> calls = new ArrayList<>();
        for (int i = 0; i < steps; i++) {
            calls.add(new Call("years", step));
            askEach(calls, "about", 10, 1);
            askEach(calls, "purse", 20, 3);
            calls.add(new Call("sum"));
            calls.add(new Call("count", 3));
        }
        return calls;
    }
}
