/** The edges of promises 10 to 14, and of section 2 of the terms. */
public final class GiftEdgesTest {
    private static final int BAD = BridgeHouse.BAD, NO = BridgeHouse.NO, FULL = BridgeHouse.FULL;
    private static final int LEAST = Integer.MIN_VALUE, MOST = Integer.MAX_VALUE;
    private static final int END = 0, FROM = 1, TILL = 2, COINS = 3, YEARLY = 4, IS_OPEN = 5, CAME = 6, LAPSED = 7;

    private GiftEdgesTest() {
    }

    public static void main(String[] args) {
        tapeHas48();
        highestByteFirst();
        tapeKeepsItsFirst();
        tapeIsUsedUp();
        blanksBetween();
        blanksAlone();
        coinsOfAGift();
        numbersAreDigits();
        yearsOfFrom();
        yearsOfTill();
        tillNotBelowFrom();
        tillNotBelowTheYear();
        yearsNotTold();
        endsOfAGift();
        partsThatMayBeLeftOut();
        archOfAGift();
        wordsAreWhole();
        endTooSoon();
        oneMoreBehindAll();
        outOfOrder();
        firstFaultIsTold();
        textOf48();
        purses20();
        faultAheadOfFull();
        purse0();
        comesAtOnceOrLater();
        comesYearly();
        comesYearlyUpTo200();
        openFromTill();
        lapsesBehindTill();
        lapsesWhatIsLeft();
        purse0NeverLapses();
        yearsThatAreOver();
        whatOfAPurse();
        whichPurse();
        fundsOfEnds();
        fundsOfOpenOnes();
        servesEnds();
        servesAnyArch();
        orderOfEnds();
        orderOfTills();
        firstOfLikeOnes();
        allTwentyPay();
        Checks.end();
    }

    private static void tapeHas48() {
        Run r = new Run("Twelve bytes come to THE TAPE").due(0, "count", 5);
        for (int n = 12; n <= 48; n += 12) {
            r.due(n, "feed", LEAST, -1, MOST).due(n, "count", 5);
        }
        r = r.due(FULL, "feed", 0, 0, 0).due(48, "count", 5).due(47, "trim", 47).due(FULL, "feed", 0, 0, 0);
        r.due(37, "trim", 37).due(FULL, "feed", 0, 0, 0).due(36, "trim", 36).due(48, "feed", 0, 0, 0);
        r.due(35, "trim", 35).due(47, "feed", 0, 0, 0).due(FULL, "feed", 0, 0, 0);
        // Refused bytes leave the text that is there: it ends with place 47.
        new Run("FULL: it would have more than 48").writes("     44 for chapel from 7 till 188 yearly       ")
            .due(FULL, "feed", 0x39393939, 0x39393939, 0x39393939).due(1, "gift").purseIs(1, 3, 7, 188, 0, 1, 0, 0, 0);
    }

    private static void highestByteFirst() {
        Run r = new Run("the highest of each number first").due(12, "feed", 0x38206671, 0, 0);
        r.due(-102, "gift").due(12, "feed", 0x3720666f, 0x7220616c, 0x6c202020).due(1, "gift").due(7, "purse", 1, COINS);
        // Bytes above 127 are bytes of a word like others.
        r.due(12, "feed", 0x3720666f, 0x7220616c, 0x6ca0ffff).due(-106, "gift");
        r.due(12, "feed", 0x80000000, -1, -1).due(-100, "gift");
    }

    private static void tapeKeepsItsFirst() {
        Run r = new Run("THE TAPE keeps its first n bytes: n. BAD.").due(0, "trim", 0).due(BAD, "trim", 1);
        r.due(BAD, "trim", -1).due(BAD, "trim", LEAST).due(BAD, "trim", MOST).does("feed", 0x3720666f, 0x7220616c, 0x6c787878);
        r.due(BAD, "trim", 13).due(BAD, "trim", -1).due(12, "trim", 12).due(11, "trim", 11).due(BAD, "trim", 12);
        r.due(9, "trim", 9).due(9, "count", 5).due(1, "gift").due(BAD, "trim", 1).due(0, "trim", 0);
        for (int i = 0; i < 4; i++) {
            r.does("feed", 0, 0, 0);
        }
        r.due(BAD, "trim", 49).due(48, "trim", 48).due(1, "trim", 1).due(1, "count", 5).due(0, "trim", 0).due(0, "count", 5);
    }

    private static void tapeIsUsedUp() {
        Run r = new Run("an act that reads it uses it up, whatever it answers").gives(1, "1 for all").due(-100, "gift");
        r.gives(-106, "1 for none").due(-100, "gift").gives(-104, "    ").gives(-100, "");
        for (int p = 2; p < 20; p++) {
            r.gives(p, "1 for all");
        }
        r.gives(FULL, "1 for all").due(-100, "gift").due(12, "feed", 0, 0, 0);
    }

    private static void blanksBetween() {
        Run r = new Run("with blanks (byte 32) between, one or more, none needed at the ends").arches(0);
        r.gives(1, "1 for all").gives(2, " 1 for all").gives(3, "1 for all ").gives(4, "  1   for    all     ");
        r.gives(5, "1  for  arch  0  from  0  till  9  yearly").gives(6, " 1 for arch 0 from 0 till 9 yearly ");
        r.gives(-100, "1for all").gives(-102, "1 forall").gives(-106, "1 for arch0").gives(-113, "1 for arch 0 from0");
        r.gives(-113, "1 for arch 0 till9").gives(-111, "1 for arch 0yearly").gives(-100, "1\tfor all").gives(-106, "1 for all\n");
        r.gives(-100, "\0001 for all").gives(-100, "1\000for all").gives(-100, "1\u00a0for all").gives(-100, "1!for all");
        r.gives(-100, "1\037for all").due(7, "count", 2);
    }

    private static void blanksAlone() {
        Run r = new Run("the end, if it comes too soon (the place behind the last byte on THE TAPE)");
        r.due(-100, "gift").gives(-101, " ").gives(-147, " ".repeat(47)).gives(-148, " ".repeat(48)).due(1, "count", 2);
    }

    private static void coinsOfAGift() {
        Run r = new Run("N 1 .. 9999").gives(-100, "0 for all").gives(1, "1 for all").gives(2, "9999 for all");
        r.gives(-100, "10000 for all").gives(-101, " 10000 for all").due(1, "purse", 1, COINS).due(9999, "purse", 2, COINS);
        r.gives(-100, "4294967297 for all").gives(-100, "18446744073709551617 for all").gives(-100, "2147483648 for all");
        r.gives(-100, "9".repeat(40) + " for all").gives(-100, "0000 for all").due(10000, "sum").due(3, "count", 2);
    }

    private static void numbersAreDigits() {
        Run r = new Run("NUMBERS (digits alone)").arches(0);
        for (String n : new String[] {"-1", "+1", "1.", "1,", "1/", "1:", "/1", ":1", "1x", "x", "one", "0x1", "1-"}) {
            r.gives(-100, n + " for all").gives(-111, "1 for arch " + n);
            r.gives(-115, "1 for all from " + n).gives(-115, "1 for all till " + n);
        }
        // Digits alone are a number, with zeros in front of it too.
        r.gives(1, "0123456789".substring(0, 5) + " for arch 000 from 00 till 0090").purseIs(1, 4, 0, 90, 1234);
    }

    private static void yearsOfFrom() {
        Run r = new Run("Y 0 .. 200").gives(1, "1 for all from 0").due(0, "purse", 1, FROM).gives(2, "1 for all from 200");
        r.due(200, "purse", 2, FROM).due(200, "purse", 2, TILL).gives(-115, "1 for all from 201");
        r.gives(-115, "1 for all from -1").gives(-115, "1 for all from 4294967296").gives(-115, "1 for all from 9999");
        r.gives(-115, "1 for all from 10000").due(3, "count", 2);
    }

    private static void yearsOfTill() {
        Run r = new Run("Y 0 .. 200").gives(1, "1 for all till 0").due(0, "purse", 1, TILL).gives(2, "1 for all till 200");
        r.due(200, "purse", 2, TILL).gives(-115, "1 for all till 201").gives(-115, "1 for all till -1");
        r.gives(-115, "1 for all till 4294967296").gives(-122, "1 for all from 3 till 201").due(3, "count", 2);
    }

    private static void tillNotBelowFrom() {
        Run r = new Run("of till not below from").passes(10).gives(-123, "1 for all from 20 till 19");
        r.gives(1, "1 for all from 20 till 20").gives(2, "1 for all from 20 till 21").gives(-123, "1 for all from 20 till 0");
        r.gives(-124, "1 for all from 200 till 199").gives(3, "1 for all from 200 till 200");
        // Told, from may be a year that is over: till is held against it, not against the year.
        r.gives(4, "1 for all from 5 till 5").gives(-122, "1 for all from 5 till 4").gives(5, "1 for all from 0 till 0");
    }

    private static void tillNotBelowTheYear() {
        Run r = new Run("which is the YEAR as it is, if not told").gives(1, "1 for all till 0").passes(10);
        r.gives(-115, "1 for all till 9").gives(2, "1 for all till 10").gives(3, "1 for all till 11").passes(190);
        r.gives(-115, "1 for all till 199").gives(4, "1 for all till 200").due(200, "purse", 4, FROM);
    }

    private static void yearsNotTold() {
        Run r = new Run("till is 200, if not told").gives(1, "1 for all").due(0, "purse", 1, FROM).due(200, "purse", 1, TILL);
        r.passes(7).gives(2, "1 for all").due(7, "purse", 2, FROM).due(200, "purse", 2, TILL).gives(3, "1 for all from 3");
        r.due(3, "purse", 3, FROM).due(200, "purse", 3, TILL).gives(4, "1 for all till 9").due(7, "purse", 4, FROM);
        r.due(9, "purse", 4, TILL).due(0, "purse", 1, FROM);
    }

    private static void endsOfAGift() {
        Run r = new Run("END: all, works, poor, chapel, arch A (an ARCH that there is).").arches(0, 0);
        String[] ends = {"all", "works", "poor", "chapel", "arch 0", "arch 1"};
        for (int i = 0; i < ends.length; i++) {
            r.gives(i + 1, "1 for " + ends[i]).due(i, "purse", i + 1, END);
        }
        // Each end again, behind another one.
        for (int i = ends.length - 1; i >= 0; i--) {
            r.gives(12 - i, "1 for " + ends[i]).due(i, "purse", 12 - i, END);
        }
        for (String end : new String[] {"work", "worksx", "al", "alll", "ALL", "All", "pooor", "por", "chapels", "arches",
            "Arch 0", "0", "for", "from", "yearly", "alm", "bll", "worlds"}) {
            r.gives(-106, "1 for " + end);
        }
    }

    private static void partsThatMayBeLeftOut() {
        Run r = new Run("N for END [ from Y ] [ till Y ] [ yearly ].").arches(0).passes(3);
        for (int parts = 0; parts < 8; parts++) {
            String text = ((parts & 1) == 0 ? "" : " from 5") + ((parts & 2) == 0 ? "" : " till 9") + ((parts & 4) == 0 ? "" : " yearly");
            int from = (parts & 1) == 0 ? 3 : 5;
            int till = (parts & 2) == 0 ? 200 : 9;
            r.gives(1 + 2 * parts, "7 for poor" + text).purseIs(1 + 2 * parts, 2, from, till, from == 3 ? 7 : 0, parts / 4);
            r.gives(2 + 2 * parts, "7 for arch 0" + text).purseIs(2 + 2 * parts, 4, from, till, from == 3 ? 7 : 0, parts / 4);
        }
    }

    private static void archOfAGift() {
        Run r = new Run("arch A (an ARCH that there is)").gives(-111, "1 for arch 0").gives(-111, "1 for arch 9");
        r.arches(0).gives(1, "1 for arch 0").gives(-111, "1 for arch 1").due(4, "purse", 1, END);
        r.arches(0, 0, 0, 0, 0, 0, 0, 0, 0).gives(2, "1 for arch 9").gives(-111, "1 for arch 10").due(13, "purse", 2, END);
        r.gives(-111, "1 for arch -1").gives(-111, "1 for arch 4294967296").gives(-111, "1 for arch for");
        // One that is fallen is there still.
        r.does("sheet", 0, 1, 2).does("enter", 0, 1, 1000).does("years", 1).due(10, "count", 1).gives(3, "1 for arch 3");
    }

    private static void wordsAreWhole() {
        Run r = new Run("(at its first byte; a WORD is all bytes up to the next blank)");
        r.gives(-102, "1 fox all").gives(-102, "1 form all").gives(-102, "1 fo all").gives(-102, "1 FOR all");
        r.gives(-104, "1   off all").gives(-110, "1 for all fro 1").gives(-110, "1 for all fromm 1").gives(-110, "1 for all til 1");
        r.gives(-110, "1 for all tilll 1").gives(-110, "1 for all yearl").gives(-110, "1 for all yearlyy");
        r.gives(-110, "1 for all Yearly").gives(-112, "1 for all   x").gives(-109, "1 for    x").due(1, "count", 2);
    }

    private static void endTooSoon() {
        Run r = new Run("the end, if it comes too soon").arches(0);
        String[] texts = {"1", "1 for", "1 for arch", "1 for all from", "1 for all till", "1 for all from 3 till",
            "1 for arch 0 from", "1 for arch 0 from 0 till"};
        for (String text : texts) {
            r.gives(-100 - text.length(), text).gives(-100 - text.length() - 1, text + " ");
            r.gives(-100 - text.length() - 4, "  " + text + "  ");
        }
        r.due(1, "count", 2);
    }

    private static void oneMoreBehindAll() {
        Run r = new Run("one more behind all").arches(0);
        String[] texts = {"1 for all", "1 for arch 0", "1 for all from 3", "1 for all till 3", "1 for all from 3 till 4",
            "1 for all yearly", "1 for all from 3 till 4 yearly"};
        for (String text : texts) {
            for (String more : new String[] {"x", "1", "for", "\0"}) {
                r.gives(-100 - text.length() - 1, text + " " + more).gives(-100 - text.length() - 2, text + "  " + more + " 1");
            }
        }
        r.due(1, "count", 2);
    }

    private static void outOfOrder() {
        Run r = new Run("what can't stand where it is").gives(-100, "for all").gives(-102, "1 all").gives(-102, "1 1 for all");
        r.gives(-106, "1 for for all").gives(-106, "1 for from 1").gives(-117, "1 for all till 9 from 1");
        r.gives(-117, "1 for all yearly from 1").gives(-117, "1 for all yearly till 1").gives(-117, "1 for all yearly yearly");
        r.gives(-117, "1 for all from 1 from 1").gives(-117, "1 for all till 1 till 1").gives(-115, "1 for all from till 1");
        r.gives(-115, "1 for all till yearly").gives(-115, "1 for all from from").gives(-117, "1 for all from 1 2");
        r.gives(-110, "1 for all all").gives(-110, "1 for all 3").gives(-110, "1 for all arch").due(1, "count", 2);
    }

    private static void firstFaultIsTold() {
        Run r = new Run("The first one is told.").gives(-100, "0 of none from 201 till 999 x").gives(-102, "1 of none from 201");
        r.gives(-106, "1 for none from 201").gives(-115, "1 for all from 201 till 202 x").gives(-122, "1 for all from 9 till 8 x");
        r.gives(-122, "1 for all from 9 till 9x").gives(-124, "1 for all from 9 till 9 x x").gives(-100, "x").gives(-100, "0");
    }

    private static void textOf48() {
        Run r = new Run("A GIFT is a TEXT on THE TAPE (48 bytes at most").arches(0);
        String text = "9999   for   arch   0   from   0   till   200";
        r.gives(1, text + "   ").gives(-147, text + "  x").gives(-148, "9999   for   arch   0   from   0          till  ");
        r.gives(2, "0".repeat(39) + "7 for all").due(7, "purse", 2, COINS);
    }

    private static void purses20() {
        Run r = new Run("It makes a PURSE, 20 at most, numbered from 0").due(1, "count", 2);
        for (int p = 1; p < 20; p++) {
            r.due(BAD, "purse", p, END).gives(p, "1 for poor").due(p + 1, "count", 2);
        }
        r.gives(FULL, "1 for poor").gives(FULL, "9999 for chapel from 5 yearly").due(20, "count", 2).due(19, "sum");
        r.due(BAD, "purse", 20, END).due(19, "spend", 0, 19).due(19, "row", 18, 1);
        // A purse that is empty, or over, still has its place.
        r.passes(1).gives(FULL, "1 for poor");
    }

    private static void faultAheadOfFull() {
        Run r = new Run("-100 less the place of its fault; FULL.");
        for (int p = 1; p < 20; p++) {
            r.gives(p, "1 for poor till 0");
        }
        r.gives(-106, "1 for none").gives(-100, "").gives(-110, "1 for all x").gives(FULL, "1 for all");
    }

    private static void purse0() {
        new Run("PURSE 0 is there at first: all, 0, 200, no coins.").purseIs(0, 0, 0, 200, 0, 0, 1, 0, 0).due(1, "count", 2)
            .due(0, "funds", 0).due(NO, "spend", 0, 1).passes(200).purseIs(0, 0, 0, 200, 0, 0, 1, 0, 0);
    }

    private static void comesAtOnceOrLater() {
        Run r = new Run("at once, if from is the YEAR or ahead of it, else as the YEAR from begins").passes(10);
        r.gives(1, "3 for poor from 9").gives(2, "5 for poor from 10").gives(3, "7 for poor from 11").gives(4, "11 for poor from 12");
        int[][] coins = {{3, 5, 0, 0}, {3, 5, 7, 0}, {3, 5, 7, 11}, {3, 5, 7, 11}};
        int[] gifts = {8, 7, 11, 0};
        for (int y = 0; y < 4; y++) {
            for (int p = 1; p <= 4; p++) {
                r.due(coins[y][p - 1], "purse", p, COINS).due(coins[y][p - 1], "purse", p, CAME);
            }
            r.due(gifts[y], "roll", 10 + y, 0).does("years", 1);
        }
    }

    private static void comesYearly() {
        Run r = new Run("of yearly ones N again as each YEAR behind that, up to till, begins").passes(5);
        r.gives(1, "2 for poor from 4 till 7 yearly").gives(2, "3 for poor till 7 yearly").gives(3, "5 for poor from 6 till 7 yearly");
        r.gives(4, "7 for poor from 7 till 7 yearly").gives(5, "9 for poor from 4 till 7");
        int[][] came = {{2, 3, 0, 0, 9}, {4, 6, 5, 0, 9}, {6, 9, 10, 7, 9}, {6, 9, 10, 7, 9}, {6, 9, 10, 7, 9}};
        for (int y = 0; y < 5; y++) {
            for (int p = 1; p <= 5; p++) {
                r.due(came[y][p - 1], "purse", p, CAME).due(y < 3 ? came[y][p - 1] : 0, "purse", p, COINS);
                r.due(p < 5 ? 1 : 0, "purse", p, YEARLY);
            }
            r.does("years", 1);
        }
    }

    private static void comesYearlyUpTo200() {
        Run r = new Run("of yearly ones N again as each YEAR behind that").gives(1, "9999 for all from 0 yearly").passes(199);
        r.due(200 * 9999, "purse", 1, CAME).does("years", 1).due(201 * 9999, "purse", 1, COINS).due(9999, "roll", 200, 0);
        r.gives(2, "1 for all yearly").due(1, "purse", 2, COINS).due(10000, "roll", 200, 0);
    }

    private static void openFromTill() {
        Run r = new Run("OPEN is a PURSE in its YEARS, from and till too.").gives(1, "1 for poor from 2 till 3");
        r.gives(2, "2 for poor from 2 till 2").gives(3, "4 for poor");
        int[][] open = {{0, 0, 1}, {0, 0, 1}, {1, 1, 1}, {1, 0, 1}, {0, 0, 1}};
        int[] funds = {4, 4, 7, 5, 4};
        for (int y = 0; y < 5; y++) {
            for (int p = 1; p <= 3; p++) {
                r.due(open[y][p - 1], "purse", p, IS_OPEN);
            }
            r.due(funds[y], "funds", 0).does("years", 1);
        }
        r.passes(195).due(1, "purse", 3, IS_OPEN).due(4, "funds", 0);
    }

    private static void lapsesBehindTill() {
        Run r = new Run("What is left as a YEAR behind till begins LAPSES").gives(1, "5 for poor till 0").gives(2, "6 for poor till 1");
        r.gives(3, "7 for poor till 199").gives(4, "8 for poor till 200").due(5, "purse", 1, COINS).due(0, "purse", 1, LAPSED);
        r.does("years", 1).due(0, "purse", 1, COINS).due(5, "purse", 1, LAPSED).due(6, "purse", 2, COINS).due(5, "roll", 1, 6);
        r.does("years", 1).due(0, "purse", 2, COINS).due(6, "purse", 2, LAPSED).due(6, "roll", 2, 6).due(5, "purse", 1, LAPSED);
        r.passes(197).due(7, "purse", 3, COINS).does("years", 1).due(0, "purse", 3, COINS).due(7, "roll", 200, 6);
        r.due(8, "purse", 4, COINS).due(0, "purse", 4, LAPSED).due(8, "sum").due(5, "purse", 1, CAME);
    }

    private static void lapsesWhatIsLeft() {
        Run r = new Run("What is left as a YEAR behind till begins LAPSES").gives(1, "5 for poor till 0");
        r.gives(2, "6 for chapel till 0").gives(3, "2 for all till 1 yearly").due(4, "spend", 0, 4).due(6, "spend", 1, 6);
        r.does("years", 1).due(1, "purse", 1, LAPSED).due(0, "purse", 2, LAPSED).due(1, "roll", 1, 6).due(4, "purse", 3, COINS);
        r.does("years", 1).due(4, "purse", 3, LAPSED).due(4, "roll", 2, 6).does("years", 1).due(0, "roll", 3, 6).due(0, "sum");
    }

    private static void purse0NeverLapses() {
        Run r = new Run("LAPSES (PURSE 0 never)").arches(0).does("set", 0, 0, 4).does("rule", 3, 10).does("years", 1);
        r.due(40, "purse", 0, COINS).does("rule", 3, 0).passes(199).due(40, "purse", 0, COINS).due(0, "purse", 0, LAPSED);
        r.due(1, "purse", 0, IS_OPEN).due(40, "funds", 0).due(40, "spend", 0, 40).due(0, "roll", 200, 6);
    }

    private static void yearsThatAreOver() {
        // By the words: from is ahead of the year, so the coins come at once; they lapse as a year behind till begins.
        Run r = new Run("at once, if from is the YEAR or ahead of it").passes(10).gives(1, "5 for poor from 3 till 9 yearly");
        r.purseIs(1, 2, 3, 9, 5, 1, 0, 5, 0).due(0, "funds", 0).due(5, "sum").due(5, "roll", 10, 0).due(NO, "spend", 0, 1);
        r.does("years", 1).purseIs(1, 2, 3, 9, 0, 1, 0, 5, 5).due(5, "roll", 11, 6).due(0, "sum");
    }

    private static void whatOfAPurse() {
        Run r = new Run("6 all that came, 7 all that LAPSED. BAD.").arches(0).gives(1, "9 for arch 0 till 3 yearly");
        r.due(BAD, "purse", 1, LEAST).due(BAD, "purse", 1, -1).due(BAD, "purse", 1, 8).due(BAD, "purse", 1, MOST);
        r.purseIs(1, 4, 0, 3, 9, 1, 1, 9, 0).passes(3).purseIs(1, 4, 0, 3, 36, 1, 1, 36, 0);
        r.due(5, "work", 0, 9).purseIs(1, 4, 0, 3, 31, 1, 1, 36, 0).passes(1).purseIs(1, 4, 0, 3, 0, 1, 0, 36, 31);
    }

    private static void whichPurse() {
        Run r = new Run("Of a PURSE: what 0 END").gives(1, "1 for all").gives(2, "2 for poor");
        for (int what = 0; what < 8; what++) {
            r.due(BAD, "purse", -1, what).due(BAD, "purse", 3, what);
        }
        r.due(BAD, "purse", LEAST, 0).due(BAD, "purse", MOST, 0).due(0, "purse", 0, 0).due(2, "purse", 2, 0);
    }

    private static void fundsOfEnds() {
        Run r = new Run("How many coins there are for an END of spending (0, 1; 2 + A)").due(BAD, "funds", 2).arches(0);
        r.due(BAD, "funds", LEAST).due(BAD, "funds", -1).due(0, "funds", 0).due(0, "funds", 1).due(0, "funds", 2);
        r.due(BAD, "funds", 3).due(BAD, "funds", MOST).arches(0, 0, 0, 0, 0, 0, 0, 0, 0).due(0, "funds", 11).due(BAD, "funds", 12);
        r.gives(1, "4 for arch 9").due(4, "funds", 11).due(0, "funds", 10).due(BAD, "funds", LEAST + 1);
    }

    private static void fundsOfOpenOnes() {
        Run r = new Run("of OPEN PURSES that SERVE it").gives(1, "1 for poor from 1").gives(2, "2 for poor till 0");
        r.gives(3, "4 for poor from 0 till 2").gives(4, "8 for chapel").due(6, "funds", 0).due(NO, "spend", 0, 7);
        r.does("years", 1).due(5, "funds", 0).does("years", 1).due(5, "funds", 0).does("years", 1).due(1, "funds", 0);
        r.due(8, "funds", 1).due(1, "spend", 0, 1).due(0, "funds", 0).due(NO, "spend", 0, 1);
    }

    private static void servesEnds() {
        Run r = new Run("A PURSE SERVES: all: each of them").arches(0, 0);
        String[] texts = {"1 for all", "2 for works", "4 for poor", "8 for chapel", "16 for arch 0", "32 for arch 1"};
        for (int i = 0; i < texts.length; i++) {
            r.gives(i + 1, texts[i]);
        }
        r.due(1 + 4, "funds", 0).due(1 + 8, "funds", 1).due(1 + 2 + 16, "funds", 2).due(1 + 2 + 32, "funds", 3);
        r.passes(50).due(NO, "spend", 0, 6).due(5, "spend", 0, 5).due(NO, "spend", 1, 9).due(8, "spend", 1, 8);
        r.due(18, "work", 0, 99).due(32, "work", 1, 99).due(NO, "work", 0, 1).due(NO, "work", 1, 1).due(0, "sum");
    }

    private static void servesAnyArch() {
        Run r = new Run("works: works at any ARCH; arch A: works at it.").arches(0).gives(1, "3 for works").gives(2, "5 for arch 0");
        r.due(8, "funds", 2).due(BAD, "funds", 3).arches(1, 2, 3, 0, 1, 2, 3, 0, 1);
        for (int a = 1; a < 10; a++) {
            r.due(3, "funds", 2 + a);
        }
        r.due(0, "funds", 0).due(0, "funds", 1).passes(1).due(1, "work", 9, 1).due(2, "work", 8, 9).due(NO, "work", 1, 1);
        r.due(2, "work", 0, 9).due(3, "purse", 2, COINS);
    }

    private static void orderOfEnds() {
        Run r = new Run("those of an arch first, then works, poor, chapel, last all").arches(0).passes(50);
        r.gives(1, "1 for all till 50").gives(2, "2 for works till 60").gives(3, "3 for arch 0 till 70");
        r.gives(4, "4 for poor till 80").gives(5, "5 for chapel till 90");
        r.due(1, "work", 0, 1).rowIs(0, 50, 3, 2, 1).due(3, "work", 0, 3).rowIs(1, 50, 3, 2, 2).rowIs(2, 50, 2, 2, 1);
        r.due(1, "spend", 0, 1).rowIs(3, 50, 4, 0, 1).due(1, "spend", 1, 1).rowIs(4, 50, 5, 1, 1);
        r.due(2, "work", 0, 99).rowIs(5, 50, 2, 2, 1).rowIs(6, 50, 1, 2, 1).due(7, "count", 3);
    }

    private static void orderOfTills() {
        Run r = new Run("of like ones the one with the least till").gives(1, "1 for poor till 9").gives(2, "1 for poor till 8");
        r.gives(3, "1 for poor").gives(4, "1 for poor till 10").due(4, "spend", 0, 4);
        int[] order = {2, 1, 4, 3};
        for (int i = 0; i < order.length; i++) {
            r.rowIs(i, 0, order[i], 0, 1);
        }
        // Purse 0 is one of all till 200: a gift for all with less comes ahead of it, one with as much behind it.
        Run all = new Run("of like ones the one with the least till").arches(0).does("rule", 3, 1).does("set", 0, 0, 1);
        all.gives(1, "1 for all till 199").gives(2, "1 for all").does("years", 1).due(3, "spend", 1, 3);
        all.rowIs(0, 1, 1, 1, 1).rowIs(1, 1, 0, 1, 1).rowIs(2, 1, 2, 1, 1);
    }

    private static void allTwentyPay() {
        Run r = new Run("Coins are taken, for an END, from OPEN PURSES that SERVE it").arches(0).does("set", 0, 0, 1);
        r.does("rule", 3, 1);
        for (int p = 1; p < 20; p++) {
            r.gives(p, p < 10 ? "1 for poor" : "1 for all till 100");
        }
        r.does("years", 1).due(20, "funds", 0).due(20, "spend", 0, 20).due(0, "sum").due(20, "count", 3);
        for (int i = 0; i < 20; i++) {
            r.rowIs(i, 1, i < 19 ? i + 1 : 0, 0, 1);
        }
    }

    private static void firstOfLikeOnes() {
        Run r = new Run("of these the first").arches(0).passes(9);
        r.gives(1, "1 for arch 0 from 8 till 50").gives(2, "1 for arch 0 from 1 till 50 yearly").gives(3, "9 for arch 0 till 50");
        r.due(3, "work", 0, 3).rowIs(0, 9, 1, 2, 1).rowIs(1, 9, 2, 2, 1).rowIs(2, 9, 3, 2, 1).due(8, "purse", 3, COINS);
    }
}
