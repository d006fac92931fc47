/** The edges of promises 19 to 23, and of section 4 of the terms. */
public final class BookEdgesTest {
    private static final int BAD = BridgeHouse.BAD, NO = BridgeHouse.NO, NONE = BridgeHouse.NONE;
    private static final int LEAST = Integer.MIN_VALUE, MOST = Integer.MAX_VALUE;

    private BookEdgesTest() {
    }

    public static void main(String[] args) {
        noRows();
        notSoManyRows();
        whatOfARow();
        rowsOfOneAct();
        noRowOfARefusedAct();
        endsInTheBook();
        rows200();
        actAcrossTheLastRow();
        rowsOfManyPurses();
        rowsOfManyYears();
        yearsOfRolls();
        whatOfRolls();
        rollsOfGifts();
        rollsOfWhatLapsed();
        rollsOfSpending();
        sumOfAll();
        sumWithPursesThatAreShut();
        sumAddsUp();
        pursesOfSpent();
        endsOfSpent();
        spentBeyondTheBook();
        whatToCount();
        countsOfAFullHouse();
        calls512();
        Checks.end();
    }

    private static void noRows() {
        Run r = new Run("NONE: there are not so many.").due(0, "count", 3);
        for (int what = 0; what < 4; what++) {
            r.due(NONE, "row", 0, what).due(NONE, "row", 199, what).due(NONE, "row", MOST, what).due(BAD, "row", -1, what);
        }
    }

    private static void notSoManyRows() {
        Run r = new Run("NONE: there are not so many. BAD: i is below 0, what.").gives(1, "9 for poor").does("spend", 0, 2);
        r.due(NONE, "row", 1, 0).does("spend", 0, 3).rowIs(0, 0, 1, 0, 2).rowIs(1, 0, 1, 0, 3).due(NONE, "row", 2, 0);
        r.due(NONE, "row", 200, 3).due(NONE, "row", MOST, 3).due(BAD, "row", -1, 0).due(BAD, "row", LEAST, 3);
    }

    private static void whatOfARow() {
        Run r = new Run("what 0 YEAR, 1 PURSE, 2 END, 3 coins").passes(7).gives(1, "9 for poor").gives(2, "9 for chapel");
        r.does("spend", 1, 4).due(BAD, "row", 0, LEAST).due(BAD, "row", 0, -1).due(7, "row", 0, 0).due(2, "row", 0, 1);
        r.due(1, "row", 0, 2).due(4, "row", 0, 3).due(BAD, "row", 0, 4).due(BAD, "row", 0, MOST).due(BAD, "row", -1, 4);
        // NONE is no refusal, so a wrong what is BAD of a row that is not there, too.
        r.due(BAD, "row", 1, 4).due(BAD, "row", 1, -1).due(NONE, "row", 1, 3);
    }

    private static void rowsOfOneAct() {
        Run r = new Run("one for each PURSE from which coins were taken at once").gives(1, "2 for poor").gives(2, "3 for poor");
        r.gives(3, "4 for all").gives(4, "5 for poor from 1").gives(5, "6 for chapel").due(2, "spend", 0, 2).due(1, "count", 3);
        // Purse 1 is empty: no row of it; purses 4 and 5 give nothing.
        r.due(4, "spend", 0, 4).due(3, "count", 3).rowIs(0, 0, 1, 0, 2).rowIs(1, 0, 2, 0, 3).rowIs(2, 0, 3, 0, 1);
        r.due(1, "spend", 0, 1).due(1, "spend", 0, 1).due(5, "count", 3).rowIs(3, 0, 3, 0, 1).rowIs(4, 0, 3, 0, 1);
    }

    private static void noRowOfARefusedAct() {
        Run r = new Run("THE BOOK has rows").arches(0).gives(1, "2 for poor").due(NO, "spend", 0, 3).due(BAD, "spend", 0, 0);
        r.due(NO, "work", 0, 1).due(BAD, "work", 0, 0).passes(1).due(NO, "work", 0, 1).due(0, "count", 3);
        r.does("rule", 4, 10).does("rule", 5, 1000).passes(1).due(0, "count", 3).due(NONE, "row", 0, 0);
    }

    private static void endsInTheBook() {
        Run r = new Run("END (2 + A for works at ARCH A)").arches(0, 0, 0, 0, 0, 0, 0, 0, 0, 0).gives(1, "99 for all").passes(1);
        r.does("spend", 0, 1).does("spend", 1, 1).does("work", 0, 1).does("work", 9, 1);
        int[] ends = {0, 1, 2, 11};
        for (int i = 0; i < ends.length; i++) {
            r.rowIs(i, 1, 1, ends[i], 1);
        }
    }

    private static void rows200() {
        Run r = new Run("THE BOOK has rows, 200 at most, the latest kept").gives(1, "9999 for poor");
        for (int i = 0; i < 199; i++) {
            r.does("spend", 0, 1 + i % 13);
        }
        r.due(199, "count", 3).due(NONE, "row", 199, 3).due(1, "row", 0, 3).does("spend", 0, 50).due(200, "count", 3);
        r.due(1, "row", 0, 3).due(1 + 198 % 13, "row", 198, 3).due(50, "row", 199, 3).due(NONE, "row", 200, 3);
        r.does("spend", 0, 60).due(200, "count", 3).due(2, "row", 0, 3).due(50, "row", 198, 3).due(60, "row", 199, 3);
        r.due(NONE, "row", 200, 3).passes(1).does("spend", 0, 70).due(200, "count", 3).rowIs(0, 0, 1, 0, 3);
        r.rowIs(197, 0, 1, 0, 50).rowIs(198, 0, 1, 0, 60).rowIs(199, 1, 1, 0, 70).due(NONE, "row", 200, 0);
        for (int i = 0; i < 196; i += 15) {
            r.due(1 + (i + 2) % 13, "row", i, 3);
        }
    }

    private static void actAcrossTheLastRow() {
        Run r = new Run("200 at most, the latest kept").gives(1, "9999 for poor till 1").gives(2, "5 for chapel").gives(3, "9 for all");
        for (int i = 0; i < 199; i++) {
            r.does("spend", 0, 1 + i % 13);
        }
        r.due(199, "count", 3).due(7, "spend", 1, 7).due(200, "count", 3).rowIs(0, 0, 1, 0, 2);
        r.rowIs(197, 0, 1, 0, 1 + 198 % 13).rowIs(198, 0, 2, 1, 5).rowIs(199, 0, 3, 1, 2).due(NONE, "row", 200, 0);
    }

    private static void rowsOfManyPurses() {
        Run r = new Run("200 at most, the latest kept");
        for (int p = 1; p < 20; p++) {
            r.gives(p, "20 for poor");
        }
        // Ten rows of each of the nineteen.
        for (int i = 0; i < 190; i++) {
            r.does("spend", 0, 2);
        }
        r.due(190, "count", 3).rowIs(189, 0, 19, 0, 2).due(NO, "spend", 0, 1).does("arch", 0).does("set", 0, 0, 4);
        r.does("rule", 3, 100).does("years", 1).due(400, "spend", 1, 400).due(191, "count", 3).rowIs(190, 1, 0, 1, 400);
        for (int i = 0; i < 12; i++) {
            r.does("years", 1).does("spend", 0, 10 + i);
        }
        r.due(200, "count", 3).rowIs(0, 0, 1, 0, 2).rowIs(6, 0, 1, 0, 2).rowIs(7, 0, 2, 0, 2).rowIs(187, 1, 0, 1, 400);
        r.rowIs(188, 2, 0, 0, 10).rowIs(199, 13, 0, 0, 21).due(20, "spent", 1, 0);
    }

    private static void rowsOfManyYears() {
        Run r = new Run("from the oldest kept").arches(0, 0, 0, 0, 0, 0, 0, 0, 0, 0).gives(1, "9999 for works yearly");
        r.does("rule", 4, 10).does("rule", 5, 1000).passes(20).due(200, "count", 3).rowIs(0, 1, 1, 2, 2).rowIs(199, 20, 1, 11, 2);
        r.passes(1).due(200, "count", 3).rowIs(0, 2, 1, 2, 2).rowIs(199, 21, 1, 11, 2).passes(50).due(200, "count", 3);
        r.rowIs(0, 52, 1, 2, 2).rowIs(9, 52, 1, 11, 2).rowIs(10, 53, 1, 2, 2).rowIs(199, 71, 1, 11, 2).passes(129);
        r.rowIs(0, 181, 1, 2, 2).rowIs(199, 200, 1, 11, 2).due(NONE, "row", 200, 0).due(400, "spent", 1, 2).due(400, "spent", 1, 11);
    }

    private static void yearsOfRolls() {
        Run r = new Run("Of the ROLL of a YEAR (0 .. 200): what 0 .. 6. BAD.").gives(1, "5 for all").passes(200).gives(2, "7 for all");
        for (int what = 0; what < 7; what++) {
            r.due(BAD, "roll", LEAST, what).due(BAD, "roll", -1, what).due(BAD, "roll", 201, what).due(BAD, "roll", MOST, what);
        }
        r.due(5, "roll", 0, 0).due(0, "roll", 1, 0).due(0, "roll", 199, 0).due(7, "roll", 200, 0);
    }

    private static void whatOfRolls() {
        Run r = new Run("Of the ROLL of a YEAR (0 .. 200): what 0 .. 6. BAD.").gives(1, "5 for poor till 0");
        for (int year : new int[] {0, 1, 200}) {
            r.due(BAD, "roll", year, LEAST).due(BAD, "roll", year, -1).due(BAD, "roll", year, 7).due(BAD, "roll", year, MOST);
        }
        r.passes(1).due(5, "roll", 0, 0).due(5, "roll", 1, 6).due(0, "roll", 0, 6).due(0, "roll", 1, 0);
    }

    private static void rollsOfGifts() {
        Run r = new Run("ROLLS: of each YEAR what came by gifts (0)").gives(1, "5 for all").gives(2, "6 for all from 1 yearly");
        r.due(5, "roll", 0, 0).gives(3, "7 for all").due(12, "roll", 0, 0).gives(-106, "9 for none").due(12, "roll", 0, 0);
        r.due(0, "roll", 1, 0).passes(2).due(6, "roll", 1, 0).due(6, "roll", 2, 0).due(0, "roll", 3, 0);
    }

    private static void rollsOfWhatLapsed() {
        Run r = new Run("what LAPSED (6)").gives(1, "5 for poor till 3").gives(2, "6 for all till 3").does("spend", 0, 2).passes(3);
        r.due(0, "roll", 3, 6).passes(1).due(9, "roll", 4, 6).due(0, "sum").passes(1).due(0, "roll", 5, 6);
    }

    private static void rollsOfSpending() {
        Run r = new Run("what was spent for poor (3), chapel (4), works (5)").arches(1, 1).gives(1, "99 for all").passes(2);
        r.does("spend", 0, 1).does("spend", 0, 2).does("spend", 1, 4).does("work", 0, 1).does("work", 1, 2);
        int[] due = {0, 0, 0, 3, 4, 3, 0};
        for (int what = 0; what < 7; what++) {
            r.due(due[what], "roll", 2, what).due(what == 0 ? 99 : 0, "roll", 0, what).due(0, "roll", 1, what);
        }
        // Each stone lacks 15 less what was worked, and 5 of the third year.
        r.does("rule", 4, 10).does("rule", 5, 1000).passes(1).due(5, "roll", 3, 5).due(3, "roll", 2, 5).does("spend", 0, 84);
        r.due(84, "roll", 3, 3).due(0, "sum").due(NO, "spend", 0, 1).due(84, "roll", 3, 3);
    }

    private static void sumOfAll() {
        Run r = new Run("All coins that ever came less all that were spent, or LAPSED").due(0, "sum").gives(1, "1 for poor");
        r.due(1, "sum").due(1, "spend", 0, 1).due(0, "sum").gives(2, "9999 for all till 0").due(9999, "sum").passes(1).due(0, "sum");
    }

    private static void sumWithPursesThatAreShut() {
        Run r = new Run("what is in all PURSES").passes(5).gives(1, "3 for poor from 1 till 4").gives(2, "4 for poor from 6");
        r.due(3, "sum").due(0, "funds", 0).passes(1).due(4, "sum").due(4, "funds", 0);
    }

    private static void sumAddsUp() {
        BridgeHouse x = Checks.houseWith(0, 1, 2, 3, 3, 2, 1, 0, 3, 3);
        for (int a = 0; a < 10; a++) {
            x.set(a, 0, a % 5);
        }
        x.rule(3, 9);
        x.rule(4, 7);
        x.rule(5, 950);
        Checks.give(x, "40 for works till 30 yearly");
        Checks.give(x, "20 for arch 9 from 5 till 70 yearly");
        Checks.give(x, "15 for poor from 10 till 20");
        for (int i = 0; i < 4; i++) {
            x.years(50);
            x.spend(i % 2, 1 + i);
            Checks.due("sum of the purses in year " + x.count(4), x.sum(), coins(x));
        }
        int came = 0;
        int gone = 0;
        for (int p = 0; p < 4; p++) {
            came += x.purse(p, 6);
            gone += x.purse(p, 7);
            for (int end = 0; end < 12; end++) {
                gone += x.spent(p, end);
            }
        }
        Checks.due("all that came less all that went", x.sum(), came - gone);
    }

    private static int coins(BridgeHouse x) {
        int coins = 0;
        for (int p = 0; p < x.count(2); p++) {
            coins += x.purse(p, 3);
        }
        return coins;
    }

    private static void pursesOfSpent() {
        Run r = new Run("What was spent of a PURSE for an END (as in THE BOOK) in all").due(BAD, "spent", 1, 0).due(0, "spent", 0, 0);
        r.due(BAD, "spent", LEAST, 0).due(BAD, "spent", -1, 0).due(BAD, "spent", MOST, 0).gives(1, "9 for poor").due(0, "spent", 1, 0);
        r.due(BAD, "spent", 2, 0).does("spend", 0, 4).due(4, "spent", 1, 0).due(0, "spent", 0, 0).does("spend", 0, 5);
        r.due(9, "spent", 1, 0).due(NO, "spend", 0, 1).due(9, "spent", 1, 0);
        for (int p = 2; p < 20; p++) {
            r.gives(p, "1 for chapel");
        }
        r.does("spend", 1, 18).due(1, "spent", 19, 1).due(0, "spent", 19, 0).due(BAD, "spent", 20, 0);
    }

    private static void endsOfSpent() {
        Run r = new Run("for an END (as in THE BOOK)").gives(1, "99 for all").due(0, "spent", 1, 1).due(BAD, "spent", 1, 2);
        r.due(BAD, "spent", 1, LEAST).due(BAD, "spent", 1, -1).due(BAD, "spent", 1, MOST).arches(0).due(0, "spent", 1, 2);
        r.due(BAD, "spent", 1, 3).arches(0, 0, 0, 0, 0, 0, 0, 0, 0).due(0, "spent", 1, 11).due(BAD, "spent", 1, 12).passes(1);
        r.does("spend", 0, 1).does("spend", 1, 2).does("work", 0, 1).does("work", 9, 2);
        int[] due = {1, 2, 1, 0, 0, 0, 0, 0, 0, 0, 0, 2};
        for (int end = 0; end < 12; end++) {
            r.due(due[end], "spent", 1, end).due(0, "spent", 0, end);
        }
    }

    private static void spentBeyondTheBook() {
        Run r = new Run("(also what THE BOOK has no more)").gives(1, "9999 for poor").gives(2, "9 for chapel").does("spend", 1, 3);
        for (int i = 0; i < 200; i++) {
            r.does("spend", 0, 2);
        }
        r.due(200, "count", 3).rowIs(0, 0, 1, 0, 2).due(3, "spent", 2, 1).due(400, "spent", 1, 0).due(3, "roll", 0, 4);
        r.does("spend", 0, 5).due(405, "spent", 1, 0).due(3, "spent", 2, 1).due(405, "roll", 0, 3);
    }

    private static void whatToCount() {
        Run r = new Run("7 SHEETS that are not MISSING. BAD.").due(BAD, "count", LEAST).due(BAD, "count", -1);
        r.due(0, "count", 0).due(0, "count", 7).due(BAD, "count", 8).due(BAD, "count", MOST);
    }

    private static void countsOfAFullHouse() {
        Run r = new Run("How many: 0 ARCHES, 1 FALLEN, 2 PURSES").arches(0, 0, 0, 0, 0, 0, 0, 0, 0, 0);
        for (int p = 1; p < 20; p++) {
            r.gives(p, "9 for works");
        }
        for (int a = 0; a < 10; a++) {
            r.does("set", a, 0, 4);
        }
        for (int s = 0; s < 4; s++) {
            r.does("sheet", s, 2, 200).does("feed", 0, 0, 0);
        }
        int[] due = {10, 0, 20, 0, 0, 48, 40, 4};
        for (int what = 0; what < 8; what++) {
            r.due(due[what], "count", what);
        }
        r.does("enter", 0, 1, 1000).passes(200);
        int[] then = {10, 10, 20, 0, 200, 48, 0, 4};
        for (int what = 0; what < 8; what++) {
            r.due(then[what], "count", what);
        }
    }

    private static void calls512() {
        Run r = new Run("An object is used for at most 512 calls after it has been made").gives(1, "9999 for poor");
        // Writing and giving took 6 calls, and asking takes 5.
        for (int i = 0; i < 501; i++) {
            r.does("spend", 0, 1 + i % 19);
        }
        r.rowIs(199, 0, 1, 0, 1 + 500 % 19).due(1 + 301 % 19, "row", 0, 3);
    }
}
