import java.util.ArrayDeque;
import java.util.ArrayList;
import java.util.Arrays;
import java.util.Comparator;
import java.util.HashMap;
import java.util.LinkedHashSet;
import java.util.List;
import java.util.Map;
import java.util.Set;
import java.util.regex.Matcher;
import java.util.regex.Pattern;

/** A second telling of the document, with the Java library, made as unlike BridgeHouse as its words allow. */
final class Model {
    private static final int BAD = -1000000001, NO = -1000000002, FULL = -1000000003, NONE = -1000000005,
            NOTHING = -1000000011, INDEX = -1000000013, SIZE = -1000000014;
    private static final int[] GAINS = {6, 4, 9, 9};
    private static final List<String> ENDS = List.of("all", "works", "poor", "chapel");

    private static final class Arch {
        int kind;
        int strength = 1000;
        int houses;
        boolean wheel;

        Arch(int kind) {
            this.kind = kind;
        }

        Arch twin() {
            Arch twin = new Arch(kind);
            twin.strength = strength;
            twin.houses = houses;
            twin.wheel = wheel;
            return twin;
        }
    }

    private record Gift(int coins, int end, int from, int till, boolean yearly, int made) {
        boolean comesIn(int year) {
            int begins = Math.max(from, made);
            return year == begins || yearly && year > begins && year <= till;
        }
    }

    private record Row(int year, int purse, int end, int coins) {
    }

    private record Coming(int year, int purse, int kind, int coins) {
    }

    private static final class Fault extends Exception {
        private static final long serialVersionUID = 1;
        final int place;

        Fault(int place) {
            this.place = place;
        }
    }

    private final List<Arch> arches = new ArrayList<>();
    private final List<Gift> gifts = new ArrayList<>(List.of(new Gift(0, 0, 0, 200, false, 0)));
    // Everything that ever came or lapsed, and every row ever written: answers are added up from these.
    private final List<Coming> comings = new ArrayList<>();
    private final List<Row> rows = new ArrayList<>();
    private final Map<Integer, int[]> sheets = new HashMap<>();
    private final Map<Integer, Integer> widths = new HashMap<>();
    private final Map<Integer, Integer> rules = new HashMap<>();
    private String tape = "";
    private int year;

    int arch(int kind) {
        if (kind < 0 || kind > 3) {
            return BAD;
        }
        if (arches.size() == 10) {
            return FULL;
        }
        arches.add(new Arch(kind));
        return arches.size() - 1;
    }

    private boolean isArch(int a) {
        return a >= 0 && a < arches.size();
    }

    int set(int a, int what, int v) {
        if (!isArch(a) || v < 0 || !(what == 0 && v <= 4 || what == 1 && v <= 1)) {
            return BAD;
        }
        Arch arch = arches.get(a);
        if (arch.strength == 0) {
            return NO;
        }
        int was = what == 0 ? arch.houses : arch.wheel ? 1 : 0;
        if (what == 0) {
            arch.houses = v;
        } else {
            arch.wheel = v == 1;
        }
        return was;
    }

    int about(int a, int what) {
        if (!isArch(a) || what < 0 || what > 7) {
            return BAD;
        }
        Arch arch = arches.get(a);
        return switch (what) {
            case 0 -> arch.kind;
            case 1 -> arch.strength;
            case 2 -> arch.houses;
            case 3 -> arch.wheel ? 1 : 0;
            case 4 -> arch.strength == 0 ? 1 : 0;
            case 5 -> losses(arches, year)[a];
            case 6 -> told(a);
            default -> rows.stream().filter(r -> r.end == 2 + a).mapToInt(Row::coins).sum();
        };
    }

    private int inYear(int sheet, int y) {
        int[] row = sheets.get(sheet);
        return row == null || y >= row.length ? 0 : row[y];
    }

    private int[] losses(List<Arch> bridge, int y) {
        long b = bridge.stream().filter(x -> x.wheel || x.strength == 0).count();
        int scour = (int) (inYear(0, y) * (10 + b) / 10);
        return bridge.stream().mapToInt(x -> {
            int wear = 10 + 4 * x.houses;
            if (x.strength == 0) {
                return 0;
            }
            return switch (x.kind) {
                case 1 -> wear / 2 + scour / 2;
                case 2 -> wear + 15 + scour;
                case 3 -> (wear + 15) * 2 + scour;
                default -> wear + scour;
            };
        }).toArray();
    }

    private void suffer(List<Arch> bridge, int y) {
        int[] losses = losses(bridge, y);
        for (int a = 0; a < losses.length; a++) {
            Arch arch = bridge.get(a);
            arch.strength -= losses[a];
            if (arch.strength <= 0) {
                arch.strength = 0;
                arch.houses = 0;
                arch.wheel = false;
            }
        }
    }

    private int told(int a) {
        List<Arch> later = new ArrayList<>();
        arches.forEach(x -> later.add(x.twin()));
        boolean stands = later.get(a).strength > 0;
        for (int y = year + 1; stands && y <= 200 && y - year <= 60; y++) {
            suffer(later, y);
            if (later.get(a).strength == 0) {
                return y;
            }
        }
        return NONE;
    }

    int isOf(int a, int kind) {
        if (!isArch(a) || kind < 0 || kind > 3) {
            return BAD;
        }
        List<Set<Integer>> kinds = List.of(Set.of(0), Set.of(0, 1), Set.of(0, 2), Set.of(0, 2, 3));
        return kinds.get(arches.get(a).kind).contains(kind) ? 1 : 0;
    }

    int sheet(int s, int width, int n) {
        if (s < 0 || s > 3 || width < 0 || width > 2 || n > 200) {
            return BAD;
        }
        if (n < 0) {
            return SIZE;
        }
        sheets.put(s, new int[n]);
        widths.put(s, width);
        return n;
    }

    int enter(int s, int place, int v) {
        if (s < 0 || s > 3) {
            return BAD;
        }
        int[] row = sheets.get(s);
        if (row == null) {
            return NOTHING;
        }
        if (place < 0 || place >= row.length) {
            return INDEX;
        }
        if (v < 0 || v > (widths.get(s) == 0 ? 100 : 1000)) {
            return BAD;
        }
        int was = row[place];
        row[place] = v;
        return was;
    }

    int copy(int from, int place, int to, int at, int many) {
        if (from < 0 || from > 3 || to < 0 || to > 3) {
            return BAD;
        }
        int[] source = sheets.get(from);
        int[] target = sheets.get(to);
        if (source == null || target == null) {
            return NOTHING;
        }
        if (!widths.get(from).equals(widths.get(to))) {
            return NO;
        }
        if (place < 0 || at < 0 || many < 0 || (long) place + many > source.length || (long) at + many > target.length) {
            return INDEX;
        }
        int[] were = Arrays.copyOfRange(source, place, place + many);
        for (int i = 0; i < many; i++) {
            target[at + i] = were[i];
        }
        return many;
    }

    int lose(int s) {
        if (s < 0 || s > 3) {
            return BAD;
        }
        int[] row = sheets.remove(s);
        return row == null ? NOTHING : row.length;
    }

    int feed(int a, int b, int c) {
        if (tape.length() + 12 > 48) {
            return FULL;
        }
        StringBuilder more = new StringBuilder(tape);
        for (int number : new int[] {a, b, c}) {
            for (int i = 3; i >= 0; i--) {
                more.append((char) (number >>> 8 * i & 255));
            }
        }
        tape = more.toString();
        return tape.length();
    }

    int trim(int n) {
        if (n < 0 || n > tape.length()) {
            return BAD;
        }
        tape = tape.substring(0, n);
        return n;
    }

    private record Word(String text, int place) {
    }

    private ArrayDeque<Word> words(String text) {
        ArrayDeque<Word> words = new ArrayDeque<>();
        Matcher m = Pattern.compile("[^ ]+", Pattern.DOTALL).matcher(text);
        while (m.find()) {
            words.add(new Word(m.group(), m.start()));
        }
        return words;
    }

    private static int number(Word word, int least, int most) throws Fault {
        if (!word.text.matches("[0-9]+")) {
            throw new Fault(word.place);
        }
        String bare = word.text.replaceFirst("^0+(?=.)", "");
        int number = bare.length() > 6 ? 1000000 : Integer.parseInt(bare);
        if (number < least || number > most) {
            throw new Fault(word.place);
        }
        return number;
    }

    private static Word next(ArrayDeque<Word> words, int length) throws Fault {
        if (words.isEmpty()) {
            throw new Fault(length);
        }
        return words.poll();
    }

    private static boolean takes(ArrayDeque<Word> words, String word) {
        boolean isThere = !words.isEmpty() && words.peek().text.equals(word);
        if (isThere) {
            words.poll();
        }
        return isThere;
    }

    private Gift read(String text) throws Fault {
        int length = text.length();
        ArrayDeque<Word> words = words(text);
        int coins = number(next(words, length), 1, 9999);
        Word word = next(words, length);
        if (!word.text.equals("for")) {
            throw new Fault(word.place);
        }
        word = next(words, length);
        int end = ENDS.indexOf(word.text);
        if (word.text.equals("arch")) {
            end = 4 + number(next(words, length), 0, arches.size() - 1);
        }
        if (end < 0) {
            throw new Fault(word.place);
        }
        int from = takes(words, "from") ? number(next(words, length), 0, 200) : year;
        int till = takes(words, "till") ? number(next(words, length), from, 200) : 200;
        boolean yearly = takes(words, "yearly");
        if (!words.isEmpty()) {
            throw new Fault(words.peek().place);
        }
        return new Gift(coins, end, from, till, yearly, year);
    }

    int gift() {
        String text = tape;
        tape = "";
        try {
            Gift gift = read(text);
            if (gifts.size() == 20) {
                return FULL;
            }
            gifts.add(gift);
            if (gift.from <= year) {
                comings.add(new Coming(year, gifts.size() - 1, 0, gift.coins));
            }
            return gifts.size() - 1;
        } catch (Fault fault) {
            return -100 - fault.place;
        }
    }

    private int came(int purse) {
        return comings.stream().filter(c -> c.purse == purse && c.kind != 6).mapToInt(Coming::coins).sum();
    }

    private int lapsed(int purse) {
        return comings.stream().filter(c -> c.purse == purse && c.kind == 6).mapToInt(Coming::coins).sum();
    }

    private int coins(int purse) {
        return came(purse) - lapsed(purse) - rows.stream().filter(r -> r.purse == purse).mapToInt(Row::coins).sum();
    }

    private boolean isOpen(int purse) {
        return gifts.get(purse).from <= year && year <= gifts.get(purse).till;
    }

    int purse(int p, int what) {
        if (p < 0 || p >= gifts.size() || what < 0 || what > 7) {
            return BAD;
        }
        Gift g = gifts.get(p);
        return switch (what) {
            case 0 -> g.end;
            case 1 -> g.from;
            case 2 -> g.till;
            case 3 -> coins(p);
            case 4 -> g.yearly ? 1 : 0;
            case 5 -> isOpen(p) ? 1 : 0;
            case 6 -> came(p);
            default -> lapsed(p);
        };
    }

    private boolean isEnd(int end) {
        return end >= 0 && end < 2 + arches.size();
    }

    /** The ends of gifts that serve an end of spending, the narrowest first. */
    private static List<Integer> servants(int end) {
        return end == 0 ? List.of(2, 0) : end == 1 ? List.of(3, 0) : List.of(end + 2, 1, 0);
    }

    private List<Integer> payers(int end) {
        List<Integer> payers = new ArrayList<>();
        for (int servant : servants(end)) {
            List<Integer> like = new ArrayList<>();
            for (int p = 0; p < gifts.size(); p++) {
                if (gifts.get(p).end == servant && isOpen(p) && coins(p) > 0) {
                    like.add(p);
                }
            }
            like.sort(Comparator.comparing(p -> gifts.get(p).till));
            payers.addAll(like);
        }
        return payers;
    }

    int funds(int end) {
        return isEnd(end) ? payers(end).stream().mapToInt(this::coins).sum() : BAD;
    }

    int rule(int which, int v) {
        int[] most = {100, 100, 100, 100, 10, 1000};
        if (which < 0 || which > 5 || v < 0 || v > most[which]) {
            return BAD;
        }
        Integer was = rules.put(which, v);
        return was == null ? 0 : was;
    }

    private int take(int end, int n) {
        int left = n;
        for (int p : payers(end)) {
            int part = Math.min(left, coins(p));
            if (part > 0) {
                rows.add(new Row(year, p, end, part));
            }
            left -= part;
        }
        return n - left;
    }

    int spend(int end, int n) {
        if (end < 0 || end > 1 || n < 1 || n > 100000) {
            return BAD;
        }
        return funds(end) < n ? NO : take(end, n);
    }

    private int upTo(int a, int level) {
        Arch arch = arches.get(a);
        int coins = 0;
        while (arch.strength + coins * GAINS[arch.kind] < level) {
            coins++;
        }
        return coins;
    }

    private int labour(int a, int n) {
        int done = take(2 + a, n);
        Arch arch = arches.get(a);
        arch.strength = Math.min(1000, arch.strength + done * GAINS[arch.kind]);
        return done;
    }

    int work(int a, int n) {
        if (!isArch(a) || n < 1 || n > 100000) {
            return BAD;
        }
        int done = labour(a, Math.min(n, upTo(a, 1000)));
        return done == 0 ? NO : done;
    }

    int years(int n) {
        if (n < 1 || n > 50 || year + n > 200) {
            return BAD;
        }
        for (int i = 0; i < n; i++) {
            goYear();
        }
        return year;
    }

    private int ruled(int which) {
        return rules.getOrDefault(which, 0);
    }

    private void goYear() {
        year++;
        for (int p = 1; p < gifts.size(); p++) {
            if (gifts.get(p).till < year && coins(p) > 0) {
                comings.add(new Coming(year, p, 6, coins(p)));
            }
        }
        for (int p = 1; p < gifts.size(); p++) {
            if (gifts.get(p).comesIn(year)) {
                comings.add(new Coming(year, p, 0, gifts.get(p).coins));
            }
        }
        if (arches.stream().allMatch(x -> x.strength > 0)) {
            comings.add(new Coming(year, 0, 1, ruled(0) * inYear(1, year)));
            comings.add(new Coming(year, 0, 1, ruled(1) * inYear(2, year)));
        }
        if (arches.stream().anyMatch(x -> x.strength > 0 && x.kind == 3)) {
            comings.add(new Coming(year, 0, 1, ruled(2) * inYear(3, year)));
        }
        arches.forEach(x -> comings.add(new Coming(year, 0, 2, ruled(3) * x.houses)));
        suffer(arches, year);
        keep();
    }

    private void keep() {
        Set<Integer> chosen = new LinkedHashSet<>();
        for (int crew = 0; crew < ruled(4); crew++) {
            int best = -1;
            for (int a = arches.size() - 1; a >= 0; a--) {
                int strength = arches.get(a).strength;
                boolean isFit = strength > 0 && strength < ruled(5) && !chosen.contains(a);
                if (isFit && (best < 0 || strength <= arches.get(best).strength)) {
                    best = a;
                }
            }
            if (best >= 0) {
                chosen.add(best);
                labour(best, upTo(best, ruled(5)));
            }
        }
    }

    int row(int i, int what) {
        if (i < 0 || what < 0 || what > 3) {
            return BAD;
        }
        int gone = Math.max(0, rows.size() - 200);
        if ((long) i + gone >= rows.size()) {
            return NONE;
        }
        Row r = rows.get(i + gone);
        return new int[] {r.year, r.purse, r.end, r.coins}[what];
    }

    int roll(int y, int what) {
        if (y < 0 || y > 200 || what < 0 || what > 6) {
            return BAD;
        }
        if (what >= 3 && what <= 5) {
            return rows.stream().filter(r -> r.year == y && Math.min(r.end, 2) == what - 3).mapToInt(Row::coins).sum();
        }
        return comings.stream().filter(c -> c.year == y && c.kind == what).mapToInt(Coming::coins).sum();
    }

    int sum() {
        int all = 0;
        for (int p = 0; p < gifts.size(); p++) {
            all += coins(p);
        }
        return all;
    }

    int spent(int p, int end) {
        if (p < 0 || p >= gifts.size() || !isEnd(end)) {
            return BAD;
        }
        return rows.stream().filter(r -> r.purse == p && r.end == end).mapToInt(Row::coins).sum();
    }

    int count(int what) {
        return switch (what) {
            case 0 -> arches.size();
            case 1 -> (int) arches.stream().filter(x -> x.strength == 0).count();
            case 2 -> gifts.size();
            case 3 -> Math.min(200, rows.size());
            case 4 -> year;
            case 5 -> tape.length();
            case 6 -> arches.stream().mapToInt(x -> x.houses).sum();
            case 7 -> sheets.size();
            default -> BAD;
        };
    }
}
