/** Promises 19 to 23: row, roll, sum, spent, count. */
public final class BookTest {
    private static final int BAD = BridgeHouse.BAD, NONE = BridgeHouse.NONE;

    private BookTest() {
    }

    public static void main(String[] args) {
        rows();
        latestRows();
        rolls();
        spentOfPurses();
        counts();
        sumsAddUp();
        Checks.end();
    }

    private static void rows() {
        BridgeHouse x = Checks.houseWith(0);
        Checks.due("no row yet", x.row(0, 0), NONE);
        Checks.gives(x, "9 for chapel", 1);
        x.years(3);
        x.spend(1, 4);
        int[] due = {3, 1, 1, 4};
        for (int what = 0; what < 4; what++) {
            Checks.due("row(0, " + what + ")", x.row(0, what), due[what]);
            Checks.due("row(1, " + what + ")", x.row(1, what), NONE);
            Checks.due("row(-1, " + what + ")", x.row(-1, what), BAD);
        }
        Checks.due("row(0, 4)", x.row(0, 4), BAD);
        Checks.due("row(0, -1)", x.row(0, -1), BAD);
        Checks.due("row of the most", x.row(Integer.MAX_VALUE, 0), NONE);
        Checks.due("row of the least", x.row(Integer.MIN_VALUE, 0), BAD);
    }

    private static void latestRows() {
        BridgeHouse x = new BridgeHouse();
        Checks.gives(x, "9999 for poor", 1);
        Checks.gives(x, "9999 for poor", 2);
        for (int i = 1; i <= 120; i++) {
            x.spend(0, i);
        }
        Checks.due("rows of 120 acts, one from both", x.count(3), 120);
        for (int i = 121; i <= 150; i++) {
            x.spend(0, i);
        }
        // Up to 140 it makes 9870: act 141 takes 129 of the first and 12 of the second.
        Checks.due("rows of 150 acts", x.count(3), 151);
        Checks.due("the rest of the first", x.row(140, 3), 129);
        Checks.due("of the second", x.row(141, 3), 12);
        Checks.due("of the second it is", x.row(141, 1), 2);
        for (int i = 0; i < 49; i++) {
            x.spend(0, 1);
        }
        Checks.due("just full", x.count(3), 200);
        Checks.due("the oldest still", x.row(0, 3), 1);
        Checks.due("the last", x.row(199, 3), 1);
        x.years(1);
        x.spend(0, 77);
        Checks.due("never more", x.count(3), 200);
        Checks.due("the oldest is gone", x.row(0, 3), 2);
        Checks.due("the latest is kept", x.row(199, 3), 77);
        Checks.due("with its year", x.row(199, 0), 1);
        Checks.due("no row 200", x.row(200, 0), NONE);
        Checks.due("spent has all", x.spent(1, 0) + x.spent(2, 0), 150 * 151 / 2 + 49 + 77);
    }

    private static void rolls() {
        BridgeHouse x = Checks.houseWith(0, 0);
        x.rule(3, 5);
        x.set(0, 0, 4);
        x.set(1, 0, 1);
        x.rule(0, 3);
        Checks.fill(x, 1, 1, 10, 11);
        Checks.gives(x, "100 for works from 2 till 3 yearly", 1);
        Checks.gives(x, "30 for poor from 2 till 2", 2);
        x.years(2);
        x.spend(0, 31);
        x.spend(0, 2);
        x.spend(1, 7);
        x.work(0, 8);
        x.work(1, 3);
        int[] due = {130, 33, 25, 33, 7, 8 + 3, 0};
        for (int what = 0; what < 7; what++) {
            Checks.due("roll(2, " + what + ")", x.roll(2, what), due[what]);
        }
        x.years(2);
        Checks.due("roll(3, 0)", x.roll(3, 0), 100);
        Checks.due("roll(4, 6)", x.roll(4, 6), 200 - 11);
        Checks.due("roll(0, 0)", x.roll(0, 0), 0);
        Checks.due("a year that comes", x.roll(200, 2), 0);
        Checks.due("roll(201, 0)", x.roll(201, 0), BAD);
        Checks.due("roll(-1, 0)", x.roll(-1, 0), BAD);
        Checks.due("roll(0, 7)", x.roll(0, 7), BAD);
        Checks.due("roll(0, -1)", x.roll(0, -1), BAD);
    }

    private static void spentOfPurses() {
        BridgeHouse x = Checks.houseWith(0, 0);
        Checks.gives(x, "50 for all till 100", 1);
        x.years(10);
        x.spend(0, 5);
        x.spend(0, 6);
        x.spend(1, 7);
        x.work(0, 8);
        x.work(1, 9);
        int[] due = {11, 7, 8, 9};
        for (int end = 0; end < 4; end++) {
            Checks.due("spent(1, " + end + ")", x.spent(1, end), due[end]);
            Checks.due("spent(0, " + end + ")", x.spent(0, end), 0);
        }
        Checks.due("spent(1, 4)", x.spent(1, 4), BAD);
        Checks.due("spent(1, -1)", x.spent(1, -1), BAD);
        Checks.due("spent(2, 0)", x.spent(2, 0), BAD);
        Checks.due("spent(-1, 0)", x.spent(-1, 0), BAD);
        Checks.due("spent of the least", x.spent(1, Integer.MIN_VALUE), BAD);
        x.arch(2);
        Checks.due("spent at a new arch", x.spent(1, 4), 0);
    }

    private static void counts() {
        BridgeHouse x = Checks.houseWith(0, 2, 3);
        x.set(0, 0, 4);
        x.set(1, 0, 3);
        x.sheet(2, 1, 4);
        x.sheet(3, 1, 4);
        Checks.gives(x, "5 for all", 1);
        x.spend(0, 1);
        x.spend(1, 1);
        x.years(20);
        x.feed(0, 0, 0);
        int[] due = {3, 1, 2, 2, 20, 12, 7, 2};
        for (int what = 0; what < 8; what++) {
            Checks.due("count(" + what + ")", x.count(what), due[what]);
        }
        Checks.due("count(8)", x.count(8), BAD);
        Checks.due("count(-1)", x.count(-1), BAD);
    }

    private static void sumsAddUp() {
        BridgeHouse x = Checks.houseWith(0, 1, 2, 3);
        for (int a = 0; a < 4; a++) {
            x.set(a, 0, a);
        }
        x.rule(3, 9);
        x.rule(4, 3);
        x.rule(5, 950);
        Checks.gives(x, "40 for works till 30 yearly", 1);
        Checks.gives(x, "20 for arch 3 from 5 till 70 yearly", 2);
        Checks.gives(x, "15 for poor from 10 till 20", 3);
        x.years(50);
        x.spend(0, 10);
        x.years(50);
        int all = 0;
        int taken = 0;
        int purses = 0;
        for (int y = 0; y <= 200; y++) {
            for (int what = 0; what < 7; what++) {
                all += what < 3 ? x.roll(y, what) : -x.roll(y, what);
                taken += what > 2 && what < 6 ? x.roll(y, what) : 0;
            }
        }
        for (int p = 0; p < 4; p++) {
            purses += x.purse(p, 3);
            for (int end = 0; end < 6; end++) {
                taken -= x.spent(p, end);
            }
        }
        Checks.due("sum by the rolls", x.sum(), all);
        Checks.due("sum by the purses", x.sum(), purses);
        Checks.due("spent by rolls less spent by purses", taken, 0);
    }
}
