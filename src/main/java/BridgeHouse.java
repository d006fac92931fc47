/** The wardens of a bridge: its arches, its sheets of floods and traffic, its purses and its book. */
public final class BridgeHouse {
    public static final int BAD = -1000000001, NO = -1000000002, FULL = -1000000003, NONE = -1000000005,
            NOTHING = -1000000011, INDEX = -1000000013, SIZE = -1000000014;

    private static final int ARCH = 0, STONE = 1, WOOD = 2, DRAW = 3, KINDS = 4;
    private static final int MOST_ARCHES = 10, MOST_STRENGTH = 1000, MOST_HOUSES = 4;
    private static final int LAST_YEAR = 200, YEARS_AHEAD = 60, YEARS_AT_ONCE = 50;

    private static final int SHEETS = 4, FLOODS = 0, TRAFFIC = 1, MOST_PLACES = 200;
    private static final int BYTES = 0, WIDTHS = 3, MOST_IN_BYTES = 100, MOST_IN_OTHERS = 1000;

    private static final int MOST_BYTES = 48, BYTES_FED = 12, FAULT_AT_0 = -100, MOST_GIVEN = 9999;
    private static final int FOR_ALL = 0, FOR_WORKS = 1, FOR_POOR = 2, FOR_CHAPEL = 3, FOR_ARCH_0 = 4;
    private static final int MOST_PURSES = 20, NO_PURSE = -1, NO_ARCH = -1;

    private static final int POOR = 0, CHAPEL = 1, WORKS_AT_0 = 2, ENDS = WORKS_AT_0 + MOST_ARCHES;
    private static final int MOST_SPENT_AT_ONCE = 100000;

    private static final int TOLLS = 3, RENT = 3, CREWS = 4, LEVEL = 5, RULES = 6;
    private static final int MOST_FEE = 100, MOST_CREWS = 10;

    private static final int MOST_ROWS = 200, ROW_WIDTH = 4;
    private static final int GIFTS_CAME = 0, TOLLS_CAME = 1, RENTS_CAME = 2, SPENT_FOR_POOR = 3, LAPSED = 6, ROLL_WIDTH = 7;

    private final Bridge bridge = new Bridge();
    // TOLD is played out on this second bridge, so that asking for it makes no objects.
    private final Bridge ahead = new Bridge();
    private final Sheet[] sheets = new Sheet[SHEETS];
    private final Tape tape = new Tape();
    private final GiftText text = new GiftText(tape);
    private final Chest chest = new Chest();
    private final Book book = new Book();
    private final Rolls rolls = new Rolls();
    private final int[] rules = new int[RULES];
    private int year;

    public BridgeHouse() {
        for (int s = 0; s < SHEETS; s++) {
            sheets[s] = new Sheet();
        }
    }

    // ---- the bridge

    public int arch(int kind) {
        if (!isWithin(kind, 0, KINDS - 1)) {
            return BAD;
        }
        return bridge.size >= MOST_ARCHES ? FULL : bridge.build(kind);
    }

    public int set(int arch, int what, int v) {
        if (!bridge.has(arch) || !isWithin(what, 0, 1) || !isWithin(v, 0, what == 0 ? MOST_HOUSES : 1)) {
            return BAD;
        }
        Arch a = bridge.arches[arch];
        if (a.isFallen()) {
            return NO;
        }
        int was = what == 0 ? a.houses : a.wheel;
        if (what == 0) {
            a.houses = v;
        } else {
            a.wheel = v;
        }
        return was;
    }

    public int about(int arch, int what) {
        if (!bridge.has(arch)) {
            return BAD;
        }
        Arch a = bridge.arches[arch];
        switch (what) {
            case 0: return a.kind;
            case 1: return a.strength;
            case 2: return a.houses;
            case 3: return a.wheel;
            case 4: return a.isFallen() ? 1 : 0;
            case 5: return a.loss(sheets[FLOODS].inYear(year), bridge.blocked());
            case 6: return yearOfFall(arch);
            case 7: return a.paid;
            default: return BAD;
        }
    }

    public int isOf(int arch, int kind) {
        if (!bridge.has(arch) || !isWithin(kind, 0, KINDS - 1)) {
            return BAD;
        }
        return bridge.arches[arch].isKind(kind) ? 1 : 0;
    }

    // ---- sheets

    public int sheet(int s, int width, int n) {
        if (!isSheet(s) || !isWithin(width, 0, WIDTHS - 1) || n > MOST_PLACES) {
            return BAD;
        }
        if (n < 0) {
            return SIZE;
        }
        sheets[s].begin(width, n);
        return n;
    }

    public int enter(int s, int place, int v) {
        if (!isSheet(s)) {
            return BAD;
        }
        Sheet sheet = sheets[s];
        if (sheet.isMissing) {
            return NOTHING;
        }
        if (!isWithin(place, 0, sheet.size - 1)) {
            return INDEX;
        }
        return isWithin(v, 0, sheet.mostInPlace()) ? sheet.write(place, v) : BAD;
    }

    public int copy(int from, int place, int to, int at, int many) {
        if (!isSheet(from) || !isSheet(to)) {
            return BAD;
        }
        Sheet source = sheets[from];
        Sheet target = sheets[to];
        if (source.isMissing || target.isMissing) {
            return NOTHING;
        }
        if (source.width != target.width) {
            return NO;
        }
        if (!source.hasPlaces(place, many) || !target.hasPlaces(at, many)) {
            return INDEX;
        }
        System.arraycopy(source.places, place, target.places, at, many);
        return many;
    }

    public int lose(int s) {
        if (!isSheet(s)) {
            return BAD;
        }
        if (sheets[s].isMissing) {
            return NOTHING;
        }
        sheets[s].isMissing = true;
        return sheets[s].size;
    }

    // ---- gifts

    public int feed(int a, int b, int c) {
        if (tape.size > MOST_BYTES - BYTES_FED) {
            return FULL;
        }
        tape.addNumber(a);
        tape.addNumber(b);
        tape.addNumber(c);
        return tape.size;
    }

    public int trim(int n) {
        if (!isWithin(n, 0, tape.size)) {
            return BAD;
        }
        tape.size = n;
        return n;
    }

    public int gift() {
        boolean isSound = text.isGift(bridge.size, year);
        tape.size = 0;
        if (!isSound) {
            return FAULT_AT_0 - text.start;
        }
        if (chest.size >= MOST_PURSES) {
            return FULL;
        }
        int made = chest.make(text);
        if (text.from <= year) {
            bringGift(chest.purses[made]);
        }
        return made;
    }

    public int purse(int purse, int what) {
        if (!chest.has(purse)) {
            return BAD;
        }
        Purse p = chest.purses[purse];
        switch (what) {
            case 0: return p.end;
            case 1: return p.from;
            case 2: return p.till;
            case 3: return p.coins;
            case 4: return p.yearly;
            case 5: return p.isOpen(year) ? 1 : 0;
            case 6: return p.came;
            case 7: return p.lapsed;
            default: return BAD;
        }
    }

    public int funds(int end) {
        return isEnd(end) ? chest.coinsFor(end, year) : BAD;
    }

    // ---- rules, spending

    public int rule(int which, int v) {
        if (!isWithin(which, 0, RULES - 1) || !isWithin(v, 0, mostOfRule(which))) {
            return BAD;
        }
        int was = rules[which];
        rules[which] = v;
        return was;
    }

    public int spend(int end, int n) {
        if (!isWithin(end, POOR, CHAPEL) || !isWithin(n, 1, MOST_SPENT_AT_ONCE)) {
            return BAD;
        }
        return chest.coinsFor(end, year) < n ? NO : takeCoins(end, n);
    }

    public int work(int arch, int n) {
        if (!bridge.has(arch) || !isWithin(n, 1, MOST_SPENT_AT_ONCE)) {
            return BAD;
        }
        int needed = bridge.arches[arch].coinsUpTo(MOST_STRENGTH);
        int done = workFor(arch, Math.min(n, needed));
        return done == 0 ? NO : done;
    }

    public int years(int n) {
        if (!isWithin(n, 1, YEARS_AT_ONCE) || year + n > LAST_YEAR) {
            return BAD;
        }
        for (int i = 0; i < n; i++) {
            year++;
            lapsePurses();
            bringGiftsOfYear();
            bringTolls();
            bringRents();
            bridge.sufferYear(sheets[FLOODS].inYear(year));
            keepUp();
        }
        return year;
    }

    // ---- the book

    public int row(int i, int what) {
        if (i < 0 || !isWithin(what, 0, ROW_WIDTH - 1)) {
            return BAD;
        }
        return i >= book.size ? NONE : book.read(i, what);
    }

    public int roll(int year, int what) {
        if (!isWithin(year, 0, LAST_YEAR) || !isWithin(what, 0, ROLL_WIDTH - 1)) {
            return BAD;
        }
        return rolls.read(year, what);
    }

    public int sum() {
        return chest.allCoins();
    }

    public int spent(int purse, int end) {
        return chest.has(purse) && isEnd(end) ? chest.purses[purse].paid[end] : BAD;
    }

    public int count(int what) {
        switch (what) {
            case 0: return bridge.size;
            case 1: return bridge.fallen();
            case 2: return chest.size;
            case 3: return book.size;
            case 4: return year;
            case 5: return tape.size;
            case 6: return bridge.houses();
            case 7: return sheetsThere();
            default: return BAD;
        }
    }

    // ---- what the calls lean on

    private static boolean isWithin(int v, int least, int most) {
        return v >= least && v <= most;
    }

    private static boolean isSheet(int s) {
        return isWithin(s, 0, SHEETS - 1);
    }

    private boolean isEnd(int end) {
        return isWithin(end, POOR, CHAPEL) || end >= WORKS_AT_0 && bridge.has(end - WORKS_AT_0);
    }

    private static int mostOfRule(int which) {
        switch (which) {
            case CREWS: return MOST_CREWS;
            case LEVEL: return MOST_STRENGTH;
            default: return MOST_FEE;
        }
    }

    private int sheetsThere() {
        int there = 0;
        for (int s = 0; s < SHEETS; s++) {
            there += sheets[s].isMissing ? 0 : 1;
        }
        return there;
    }

    private int yearOfFall(int arch) {
        if (bridge.arches[arch].isFallen()) {
            return NONE;
        }
        ahead.becomeLike(bridge);
        int last = Math.min(year + YEARS_AHEAD, LAST_YEAR);
        for (int y = year + 1; y <= last; y++) {
            ahead.sufferYear(sheets[FLOODS].inYear(y));
            if (ahead.arches[arch].isFallen()) {
                return y;
            }
        }
        return NONE;
    }

    private void bringGift(Purse purse) {
        purse.receive(purse.given);
        rolls.add(year, GIFTS_CAME, purse.given);
    }

    /** Takes n coins for an end, or as many as there are, and writes them down: how many they were. */
    private int takeCoins(int end, int n) {
        int left = n;
        for (int turn = 0; turn < MOST_PURSES && left > 0; turn++) {
            int p = chest.nextToPay(end, year);
            if (p == NO_PURSE) {
                break;
            }
            int part = Math.min(left, chest.purses[p].coins);
            chest.purses[p].pay(end, part);
            book.write(year, p, end, part);
            left -= part;
        }
        rolls.add(year, SPENT_FOR_POOR + Math.min(end, WORKS_AT_0), n - left);
        return n - left;
    }

    private int workFor(int arch, int coins) {
        int done = takeCoins(WORKS_AT_0 + arch, coins);
        bridge.arches[arch].mend(done);
        return done;
    }

    private void lapsePurses() {
        for (int p = 1; p < chest.size; p++) {
            if (chest.purses[p].till < year) {
                rolls.add(year, LAPSED, chest.purses[p].lapse());
            }
        }
    }

    private void bringGiftsOfYear() {
        for (int p = 1; p < chest.size; p++) {
            if (chest.purses[p].isDue(year)) {
                bringGift(chest.purses[p]);
            }
        }
    }

    private void bringTolls() {
        boolean isWhole = bridge.fallen() == 0;
        int tolls = 0;
        for (int t = 0; t < TOLLS; t++) {
            boolean isPaid = t < TOLLS - 1 ? isWhole : bridge.hasDraw();
            if (isPaid) {
                tolls += rules[t] * sheets[TRAFFIC + t].inYear(year);
            }
        }
        chest.purses[0].receive(tolls);
        rolls.add(year, TOLLS_CAME, tolls);
    }

    private void bringRents() {
        int rents = rules[RENT] * bridge.houses();
        chest.purses[0].receive(rents);
        rolls.add(year, RENTS_CAME, rents);
    }

    private void keepUp() {
        bridge.forgetChosen();
        for (int crew = 0; crew < rules[CREWS]; crew++) {
            int a = bridge.weakestBelow(rules[LEVEL]);
            if (a == NO_ARCH) {
                break;
            }
            bridge.arches[a].isChosen = true;
            workFor(a, bridge.arches[a].coinsUpTo(rules[LEVEL]));
        }
    }

    private static final class Arch {
        private int kind;
        private int strength;
        private int houses;
        private int wheel;
        private int paid;
        private boolean isChosen;

        boolean isFallen() {
            return strength == 0;
        }

        boolean isKind(int asked) {
            return asked == ARCH || asked == kind || asked == WOOD && kind == DRAW;
        }

        int loss(int flood, int blocked) {
            return isFallen() ? 0 : wear() + scour(flood, blocked);
        }

        private int wear() {
            int plain = 10 + 4 * houses;
            switch (kind) {
                case STONE: return plain / 2;
                case WOOD: return plain + 15;
                case DRAW: return 2 * (plain + 15);
                default: return plain;
            }
        }

        private int scour(int flood, int blocked) {
            int full = flood * (10 + blocked) / 10;
            return kind == STONE ? full / 2 : full;
        }

        void weaken(int loss) {
            strength = Math.max(0, strength - loss);
            if (isFallen()) {
                houses = 0;
                wheel = 0;
            }
        }

        private int gain() {
            switch (kind) {
                case STONE: return 4;
                case WOOD:
                case DRAW: return 9;
                default: return 6;
            }
        }

        int coinsUpTo(int level) {
            int lacking = Math.max(0, level - strength);
            return (lacking + gain() - 1) / gain();
        }

        void mend(int coins) {
            strength = Math.min(MOST_STRENGTH, strength + coins * gain());
            paid += coins;
        }

        void becomeLike(Arch other) {
            kind = other.kind;
            strength = other.strength;
            houses = other.houses;
            wheel = other.wheel;
        }
    }

    private static final class Bridge {
        private final Arch[] arches = new Arch[MOST_ARCHES];
        private int size;

        Bridge() {
            for (int a = 0; a < MOST_ARCHES; a++) {
                arches[a] = new Arch();
            }
        }

        boolean has(int arch) {
            return isWithin(arch, 0, size - 1);
        }

        int build(int kind) {
            arches[size].kind = kind;
            arches[size].strength = MOST_STRENGTH;
            size++;
            return size - 1;
        }

        int fallen() {
            int fallen = 0;
            for (int a = 0; a < size; a++) {
                fallen += arches[a].isFallen() ? 1 : 0;
            }
            return fallen;
        }

        int houses() {
            int houses = 0;
            for (int a = 0; a < size; a++) {
                houses += arches[a].houses;
            }
            return houses;
        }

        boolean hasDraw() {
            for (int a = 0; a < size; a++) {
                if (arches[a].kind == DRAW && !arches[a].isFallen()) {
                    return true;
                }
            }
            return false;
        }

        /** How many arches hold the water up: a fallen one has no wheel, so none counts twice. */
        int blocked() {
            int wheels = 0;
            for (int a = 0; a < size; a++) {
                wheels += arches[a].wheel;
            }
            return wheels + fallen();
        }

        void sufferYear(int flood) {
            // Counted ahead of the first loss: who falls this year blocks the water from the next.
            int blocked = blocked();
            for (int a = 0; a < size; a++) {
                arches[a].weaken(arches[a].loss(flood, blocked));
            }
        }

        void becomeLike(Bridge other) {
            size = other.size;
            for (int a = 0; a < size; a++) {
                arches[a].becomeLike(other.arches[a]);
            }
        }

        void forgetChosen() {
            for (int a = 0; a < size; a++) {
                arches[a].isChosen = false;
            }
        }

        int weakestBelow(int level) {
            int weakest = NO_ARCH;
            int least = level;
            for (int a = 0; a < size; a++) {
                Arch arch = arches[a];
                if (!arch.isFallen() && !arch.isChosen && arch.strength < least) {
                    weakest = a;
                    least = arch.strength;
                }
            }
            return weakest;
        }
    }

    private static final class Sheet {
        private final int[] places = new int[MOST_PLACES];
        private boolean isMissing = true;
        private int width;
        private int size;

        void begin(int width, int size) {
            isMissing = false;
            this.width = width;
            this.size = size;
            for (int i = 0; i < MOST_PLACES; i++) {
                places[i] = 0;
            }
        }

        int mostInPlace() {
            return width == BYTES ? MOST_IN_BYTES : MOST_IN_OTHERS;
        }

        int write(int place, int v) {
            int was = places[place];
            places[place] = v;
            return was;
        }

        boolean hasPlaces(int place, int many) {
            // size - many can't wrap once many is known to be within 0 .. size.
            return isWithin(many, 0, size) && isWithin(place, 0, size - many);
        }

        int inYear(int year) {
            return isMissing || !isWithin(year, 0, size - 1) ? 0 : places[year];
        }
    }

    private static final class Tape {
        private final byte[] bytes = new byte[MOST_BYTES];
        private int size;

        void addNumber(int number) {
            for (int shift = 24; shift >= 0 && size < MOST_BYTES; shift -= 8) {
                bytes[size] = (byte) (number >> shift);
                size++;
            }
        }
    }

    /** Reads the tape word by word; where it stops with a fault, start is the fault's place. */
    private static final class GiftText {
        private static final int BLANK = 32, NO_NUMBER = -1;

        private final Tape tape;
        private int start;
        private int stop;
        private int given;
        private int end;
        private int from;
        private int till;
        private int yearly;

        GiftText(Tape tape) {
            this.tape = tape;
        }

        boolean isGift(int arches, int year) {
            stop = 0;
            toNextWord();
            given = number();
            if (!isWithin(given, 1, MOST_GIVEN)) {
                return false;
            }
            toNextWord();
            if (!isWord("for")) {
                return false;
            }
            toNextWord();
            return isEndRead(arches) && areYearsRead(year) && start == tape.size;
        }

        private boolean isEndRead(int arches) {
            if (isWord("arch")) {
                toNextWord();
                int arch = number();
                if (!isWithin(arch, 0, arches - 1)) {
                    return false;
                }
                end = FOR_ARCH_0 + arch;
            } else if (isWord("all")) {
                end = FOR_ALL;
            } else if (isWord("works")) {
                end = FOR_WORKS;
            } else if (isWord("poor")) {
                end = FOR_POOR;
            } else if (isWord("chapel")) {
                end = FOR_CHAPEL;
            } else {
                return false;
            }
            toNextWord();
            return true;
        }

        private boolean areYearsRead(int year) {
            from = year;
            till = LAST_YEAR;
            if (isWord("from")) {
                toNextWord();
                from = number();
                if (!isWithin(from, 0, LAST_YEAR)) {
                    return false;
                }
                toNextWord();
            }
            if (isWord("till")) {
                toNextWord();
                till = number();
                if (!isWithin(till, from, LAST_YEAR)) {
                    return false;
                }
                toNextWord();
            }
            yearly = isWord("yearly") ? 1 : 0;
            if (yearly == 1) {
                toNextWord();
            }
            return true;
        }

        private void toNextWord() {
            start = stop;
            while (start < tape.size && tape.bytes[start] == BLANK) {
                start++;
            }
            stop = start;
            while (stop < tape.size && tape.bytes[stop] != BLANK) {
                stop++;
            }
        }

        private boolean isWord(String word) {
            if (stop - start != word.length()) {
                return false;
            }
            for (int i = 0; i < word.length(); i++) {
                if (tape.bytes[start + i] != word.charAt(i)) {
                    return false;
                }
            }
            return true;
        }

        private int number() {
            if (start == stop) {
                return NO_NUMBER;
            }
            int number = 0;
            for (int i = start; i < stop; i++) {
                int digit = tape.bytes[i] - '0';
                if (!isWithin(digit, 0, 9)) {
                    return NO_NUMBER;
                }
                // Held just above the most that a gift may have, lest 48 digits wrap around.
                number = Math.min(10 * number + digit, MOST_GIVEN + 1);
            }
            return number;
        }
    }

    private static final class Purse {
        private final int[] paid = new int[ENDS];
        private int end;
        private int from;
        private int till;
        private int given;
        private int yearly;
        private int coins;
        private int came;
        private int lapsed;

        boolean isOpen(int year) {
            return year >= from && year <= till;
        }

        boolean isDue(int year) {
            return year == from || yearly == 1 && isOpen(year);
        }

        boolean canPay(int spendingEnd, int year) {
            return coins > 0 && isOpen(year) && serves(spendingEnd);
        }

        private boolean serves(int spendingEnd) {
            switch (end) {
                case FOR_ALL: return true;
                case FOR_WORKS: return spendingEnd >= WORKS_AT_0;
                case FOR_POOR: return spendingEnd == POOR;
                case FOR_CHAPEL: return spendingEnd == CHAPEL;
                default: return spendingEnd - WORKS_AT_0 == end - FOR_ARCH_0;
            }
        }

        /** 0 for the narrowest end, which pays first. */
        private int breadth() {
            switch (end) {
                case FOR_ALL: return 4;
                case FOR_CHAPEL: return 3;
                case FOR_POOR: return 2;
                case FOR_WORKS: return 1;
                default: return 0;
            }
        }

        boolean paysAheadOf(Purse other) {
            return breadth() < other.breadth() || breadth() == other.breadth() && till < other.till;
        }

        void receive(int n) {
            coins += n;
            came += n;
        }

        void pay(int spendingEnd, int n) {
            coins -= n;
            paid[spendingEnd] += n;
        }

        int lapse() {
            int lost = coins;
            coins = 0;
            lapsed += lost;
            return lost;
        }
    }

    private static final class Chest {
        private final Purse[] purses = new Purse[MOST_PURSES];
        private int size = 1;

        Chest() {
            for (int p = 0; p < MOST_PURSES; p++) {
                purses[p] = new Purse();
            }
            purses[0].end = FOR_ALL;
            purses[0].till = LAST_YEAR;
        }

        boolean has(int purse) {
            return isWithin(purse, 0, size - 1);
        }

        int make(GiftText text) {
            Purse made = purses[size];
            made.end = text.end;
            made.from = text.from;
            made.till = text.till;
            made.given = text.given;
            made.yearly = text.yearly;
            size++;
            return size - 1;
        }

        int allCoins() {
            int all = 0;
            for (int p = 0; p < size; p++) {
                all += purses[p].coins;
            }
            return all;
        }

        int coinsFor(int end, int year) {
            int coins = 0;
            for (int p = 0; p < size; p++) {
                coins += purses[p].canPay(end, year) ? purses[p].coins : 0;
            }
            return coins;
        }

        int nextToPay(int end, int year) {
            int next = NO_PURSE;
            for (int p = 0; p < size; p++) {
                if (purses[p].canPay(end, year) && (next == NO_PURSE || purses[p].paysAheadOf(purses[next]))) {
                    next = p;
                }
            }
            return next;
        }
    }

    private static final class Book {
        private final int[] cells = new int[MOST_ROWS * ROW_WIDTH];
        private int oldest;
        private int size;

        void write(int year, int purse, int end, int coins) {
            int cell = (oldest + size) % MOST_ROWS * ROW_WIDTH;
            cells[cell] = year;
            cells[cell + 1] = purse;
            cells[cell + 2] = end;
            cells[cell + 3] = coins;
            if (size < MOST_ROWS) {
                size++;
            } else {
                oldest = (oldest + 1) % MOST_ROWS;
            }
        }

        int read(int i, int what) {
            return cells[(oldest + i) % MOST_ROWS * ROW_WIDTH + what];
        }
    }

    private static final class Rolls {
        private final int[] cells = new int[(LAST_YEAR + 1) * ROLL_WIDTH];

        void add(int year, int what, int n) {
            cells[year * ROLL_WIDTH + what] += n;
        }

        int read(int year, int what) {
            return cells[year * ROLL_WIDTH + what];
        }
    }
}
