/** Promises 15 to 18: rule, spend, work, years. */
public final class SpendingTest {
    private static final int BAD = BridgeHouse.BAD, NO = BridgeHouse.NO;

    private SpendingTest() {
    }

    public static void main(String[] args) {
        rules();
        spending();
        orderOfEnds();
        orderOfTills();
        workGains();
        workLimits();
        workOfFallen();
        yearLimits();
        tolls();
        keeping();
        keepingOrder();
        keepingWithoutCoins();
        Checks.end();
    }

    private static void rules() {
        BridgeHouse x = new BridgeHouse();
        int[] most = {100, 100, 100, 100, 10, 1000};
        for (int which = 0; which < 6; which++) {
            Checks.due("most", x.rule(which, most[which]), 0);
            Checks.due("above", x.rule(which, most[which] + 1), BAD);
            Checks.due("below", x.rule(which, -1), BAD);
            Checks.due("what it was", x.rule(which, 3), most[which]);
            Checks.due("and then", x.rule(which, 0), 3);
        }
        Checks.due("rule(6, 0)", x.rule(6, 0), BAD);
        Checks.due("rule(-1, 0)", x.rule(-1, 0), BAD);
    }

    private static void spending() {
        BridgeHouse x = new BridgeHouse();
        Checks.due("nothing there", x.spend(0, 1), NO);
        Checks.gives(x, "10 for poor", 1);
        Checks.gives(x, "20 for all", 2);
        Checks.due("spend(0, 0)", x.spend(0, 0), BAD);
        Checks.due("spend(0, -1)", x.spend(0, -1), BAD);
        Checks.due("spend(0, 100001)", x.spend(0, 100001), BAD);
        Checks.due("spend(2, 1)", x.spend(2, 1), BAD);
        Checks.due("spend(-1, 1)", x.spend(-1, 1), BAD);
        Checks.due("spend(0, 100000)", x.spend(0, 100000), NO);
        Checks.due("too many", x.spend(0, 31), NO);
        Checks.due("nothing was taken", x.sum(), 30);
        Checks.due("no row was written", x.count(3), 0);
        Checks.due("poor coins are not the chapel's", x.spend(1, 21), NO);
        Checks.due("spend(1, 5)", x.spend(1, 5), 5);
        Checks.due("spend(0, 25)", x.spend(0, 25), 25);
        Checks.due("all is spent", x.sum(), 0);
        Checks.due("three rows", x.count(3), 3);
    }

    private static void hasRows(BridgeHouse x, int first, int[]... rows) {
        for (int i = 0; i < rows.length; i++) {
            for (int what = 0; what < 4; what++) {
                Checks.due("row(" + (first + i) + ", " + what + ")", x.row(first + i, what), rows[i][what]);
            }
        }
        Checks.due("rows", x.count(3), first + rows.length);
    }

    private static void orderOfEnds() {
        BridgeHouse x = Checks.houseWith(0, 0);
        x.years(40);
        Checks.gives(x, "2 for all till 41", 1);
        Checks.gives(x, "3 for works till 50", 2);
        Checks.gives(x, "4 for arch 1 till 60", 3);
        Checks.gives(x, "5 for arch 0 till 60", 4);
        Checks.gives(x, "6 for poor till 45", 5);
        Checks.gives(x, "7 for chapel till 45", 6);
        Checks.due("work(1, 10)", x.work(1, 10), 9);
        hasRows(x, 0, new int[] {40, 3, 3, 4}, new int[] {40, 2, 3, 3}, new int[] {40, 1, 3, 2});
        Checks.due("work(1, 1)", x.work(1, 1), NO);
        Checks.due("work(0, 10)", x.work(0, 10), 5);
        hasRows(x, 3, new int[] {40, 4, 2, 5});
        Checks.gives(x, "100 for all till 40", 7);
        Checks.due("spend(0, 8)", x.spend(0, 8), 8);
        hasRows(x, 4, new int[] {40, 5, 0, 6}, new int[] {40, 7, 0, 2});
        Checks.due("spend(1, 8)", x.spend(1, 8), 8);
        hasRows(x, 6, new int[] {40, 6, 1, 7}, new int[] {40, 7, 1, 1});
    }

    private static void orderOfTills() {
        BridgeHouse x = new BridgeHouse();
        Checks.gives(x, "1 for poor till 9", 1);
        Checks.gives(x, "2 for poor till 7", 2);
        Checks.gives(x, "3 for poor till 8", 3);
        Checks.gives(x, "4 for poor till 7", 4);
        Checks.gives(x, "5 for all", 5);
        Checks.gives(x, "6 for poor from 1 till 6", 6);
        x.spend(0, 11);
        hasRows(x, 0, new int[] {0, 2, 0, 2}, new int[] {0, 4, 0, 4}, new int[] {0, 3, 0, 3}, new int[] {0, 1, 0, 1},
            new int[] {0, 5, 0, 1});
        x.sheet(1, 0, 2);
        x.enter(1, 1, 1);
        x.rule(0, 50);
        x.years(1);
        Checks.due("spend from both of like end and till", x.spend(1, 6), 6);
        hasRows(x, 5, new int[] {1, 0, 1, 6});
    }

    private static void workGains() {
        int[] gain = {6, 4, 9, 9};
        for (int kind = 0; kind < 4; kind++) {
            BridgeHouse x = Checks.houseWith(kind);
            Checks.gives(x, "999 for works", 1);
            x.sheet(0, 1, 2);
            x.enter(0, 1, 500);
            x.years(1);
            int before = x.about(0, 1);
            Checks.due("work(0, 3)", x.work(0, 3), 3);
            Checks.due("strength of kind " + kind, x.about(0, 1), before + 3 * gain[kind]);
            int needed = (1000 - x.about(0, 1) + gain[kind] - 1) / gain[kind];
            Checks.due("no more than are needed", x.work(0, 100000), needed);
            Checks.due("1000 at most", x.about(0, 1), 1000);
            Checks.due("coins left", x.funds(2), 999 - 3 - needed);
        }
    }

    private static void workLimits() {
        BridgeHouse x = Checks.houseWith(0);
        Checks.due("no arch", x.work(1, 1), BAD);
        Checks.due("no arch", x.work(-1, 1), BAD);
        Checks.due("work(0, 0)", x.work(0, 0), BAD);
        Checks.due("work(0, 100001)", x.work(0, 100001), BAD);
        Checks.due("none needed, none there", x.work(0, 1), NO);
        x.years(10);
        Checks.due("none there", x.work(0, 1), NO);
        Checks.gives(x, "5 for works", 1);
        Checks.due("as many as there are", x.work(0, 100), 5);
        Checks.due("strength", x.about(0, 1), 930);
        Checks.gives(x, "50 for works", 2);
        Checks.due("just needed", x.work(0, 12), 12);
        Checks.due("none needed", x.work(0, 1), NO);
        Checks.due("left", x.funds(2), 38);
    }

    private static void workOfFallen() {
        BridgeHouse x = Checks.houseWith(0, 1);
        x.set(0, 0, 3);
        x.set(0, 1, 1);
        x.sheet(0, 1, 2);
        x.enter(0, 1, 1000);
        x.years(1);
        Checks.due("fallen", x.about(0, 4), 1);
        Checks.gives(x, "100 for arch 0", 1);
        x.rule(4, 10);
        x.rule(5, 1000);
        x.years(1);
        Checks.due("the keeping leaves it", x.about(0, 1), 0);
        Checks.due("by hand", x.work(0, 1), 1);
        Checks.due("it stands again", x.about(0, 4), 0);
        Checks.due("with little strength", x.about(0, 1), 6);
        Checks.due("with no houses", x.about(0, 2), 0);
        Checks.due("with no wheel", x.about(0, 3), 0);
        Checks.due("it may have some", x.set(0, 0, 2), 0);
        Checks.due("count(1)", x.count(1), 0);
    }

    private static void yearLimits() {
        BridgeHouse x = new BridgeHouse();
        Checks.due("years(0)", x.years(0), BAD);
        Checks.due("years(-1)", x.years(-1), BAD);
        Checks.due("years(51)", x.years(51), BAD);
        Checks.due("years of the most", x.years(Integer.MAX_VALUE), BAD);
        for (int y = 50; y <= 150; y += 50) {
            Checks.due("years(50)", x.years(50), y);
        }
        Checks.due("years(1)", x.years(1), 151);
        Checks.due("beyond 200", x.years(50), BAD);
        Checks.due("up to 200", x.years(49), 200);
        Checks.due("one more", x.years(1), BAD);
        Checks.due("count(4)", x.count(4), 200);
    }

    private static void tolls() {
        BridgeHouse x = Checks.houseWith(3, 1, 1);
        for (int t = 0; t < 3; t++) {
            x.rule(t, 2 + t);
            Checks.fill(x, 1 + t, 1, 30, 10 * (t + 1));
        }
        x.rule(3, 7);
        x.set(1, 0, 2);
        x.set(2, 0, 1);
        x.years(1);
        Checks.due("all tolls", x.roll(1, 1), 20 + 60 + 120);
        Checks.due("rents", x.roll(1, 2), 21);
        Checks.due("in purse 0", x.purse(0, 3), 221);
        Checks.due("all that came to it", x.purse(0, 6), 221);
        x.sheet(0, 1, 4);
        x.enter(0, 2, 930);
        x.years(1);
        // The draw falls behind the tolls of that year.
        Checks.due("it fell", x.count(1), 1);
        Checks.due("tolls of the year of the fall", x.roll(2, 1), 200);
        x.years(1);
        Checks.due("no tolls with a fallen one", x.roll(3, 1), 0);
        Checks.due("rents all the same", x.roll(3, 2), 21);
        x.arch(3);
        x.years(1);
        Checks.due("toll 2 with a draw that stands", x.roll(4, 1), 120);
        Checks.due("work on the fallen one", x.work(0, 100), 100);
        x.lose(2);
        x.years(1);
        Checks.due("all tolls again, but for the missing sheet", x.roll(5, 1), 140);
        x.years(25);
        Checks.due("no such place in the sheets", x.roll(30, 1), 0);
        BridgeHouse y = new BridgeHouse();
        y.sheet(1, 0, 5);
        y.sheet(3, 0, 5);
        y.enter(1, 1, 4);
        y.enter(3, 1, 4);
        y.rule(0, 1);
        y.rule(2, 1);
        y.years(1);
        Checks.due("tolls of a bridge without arches", y.roll(1, 1), 4);
    }

    private static void keeping() {
        BridgeHouse x = Checks.houseWith(0, 1, 2, 3);
        Checks.gives(x, "9999 for works", 1);
        x.years(10);
        x.rule(4, 10);
        x.rule(5, 960);
        x.years(1);
        // 890 and 12 coins; 945 and 4; 725 and 27, 2 too many; 450 and 57, 3 too many.
        int[] strength = {890 + 72, 945 + 16, 725 + 243, 450 + 513};
        int[] coins = {12, 4, 27, 57};
        for (int a = 0; a < 4; a++) {
            Checks.due("kept " + a, x.about(a, 1), strength[a]);
            Checks.due("spent at " + a, x.about(a, 7), coins[a]);
        }
        Checks.due("the weakest first", x.row(0, 2), 5);
        Checks.due("then the wood", x.row(1, 2), 4);
        Checks.due("then the arch", x.row(2, 2), 2);
        Checks.due("then the stone", x.row(3, 2), 3);
        Checks.due("roll", x.roll(11, 5), 100);
        x.rule(5, 0);
        x.years(1);
        Checks.due("none below level 0", x.roll(12, 5), 0);
    }

    private static void keepingOrder() {
        BridgeHouse x = Checks.houseWith(0, 0, 0);
        Checks.gives(x, "9999 for works", 1);
        x.years(9);
        x.rule(4, 2);
        x.rule(5, 1000);
        x.years(1);
        Checks.due("first of likes", x.about(0, 1), 1000);
        Checks.due("second of likes", x.about(1, 1), 1000);
        Checks.due("third has no crew", x.about(2, 1), 900);
        x.rule(4, 1);
        x.rule(5, 890);
        x.years(1);
        Checks.due("at level is not below it", x.about(2, 7), 0);
        x.years(1);
        Checks.due("below it is", x.about(2, 7), 2);
        Checks.due("up to level and no more than a gain above", x.about(2, 1), 892);
    }

    private static void keepingWithoutCoins() {
        BridgeHouse x = Checks.houseWith(2, 0, 1);
        Checks.gives(x, "3 for arch 1", 1);
        Checks.gives(x, "100 for arch 2", 2);
        x.rule(4, 2);
        x.rule(5, 1000);
        x.years(1);
        // The wood is chosen and gets nothing, the arch is next; the stone has no crew left.
        Checks.due("wood", x.about(0, 1), 975);
        Checks.due("arch", x.about(1, 1), 1000);
        Checks.due("stone", x.about(2, 1), 995);
        Checks.due("one row", x.count(3), 1);
        x.years(1);
        Checks.due("as many coins as there are", x.about(1, 7), 3);
        Checks.due("are spent", x.about(1, 1), 996);
        // Of the first arch's 3 coins 2 went in year 1 and 1 in year 2, when 2 were wanted.
        Checks.due("roll of year 1", x.roll(1, 5), 2);
        Checks.due("roll of year 2", x.roll(2, 5), 1);
        x.rule(4, 3);
        x.years(2);
        Checks.due("each year chooses anew", x.about(2, 7), 4 + 2);
    }
}
