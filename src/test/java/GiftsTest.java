/** Promises 10 to 14: feed, trim, gift, purse, funds. */
public final class GiftsTest {
    private static final int BAD = BridgeHouse.BAD, FULL = BridgeHouse.FULL;

    private GiftsTest() {
    }

    public static void main(String[] args) {
        feeding();
        trimming();
        soundTexts();
        numbersInTexts();
        faults();
        faultsOfYears();
        fullOfPurses();
        coming();
        comingLate();
        yearly();
        lapsing();
        fundsOfEnds();
        Checks.end();
    }

    private static void feeding() {
        BridgeHouse x = new BridgeHouse();
        for (int n = 12; n <= 48; n += 12) {
            Checks.due("feed", x.feed(1, -1, 0), n);
        }
        Checks.due("feed too much", x.feed(0, 0, 0), FULL);
        Checks.due("count(5)", x.count(5), 48);
        Checks.due("trim(37)", x.trim(37), 37);
        Checks.due("feed one byte too much", x.feed(0, 0, 0), FULL);
        Checks.due("trim(36)", x.trim(36), 36);
        Checks.due("feed again", x.feed(0, 0, 0), 48);
        x.trim(0);
        // "7 for poor" with two blanks behind it: the highest byte of each number comes first.
        Checks.due("feed a gift", x.feed(0x3720666f, 0x7220706f, 0x6f722020), 12);
        Checks.due("gift", x.gift(), 1);
        Checks.due("its coins", x.purse(1, 3), 7);
        Checks.due("its end", x.purse(1, 0), 2);
    }

    private static void trimming() {
        BridgeHouse x = new BridgeHouse();
        Checks.due("trim(0)", x.trim(0), 0);
        Checks.due("trim(1)", x.trim(1), BAD);
        Checks.due("trim(-1)", x.trim(-1), BAD);
        x.feed(0, 0, 0);
        Checks.due("trim(13)", x.trim(13), BAD);
        Checks.due("trim(12)", x.trim(12), 12);
        Checks.due("trim(5)", x.trim(5), 5);
        Checks.due("trim(6)", x.trim(6), BAD);
        Checks.due("count(5)", x.count(5), 5);
    }

    private static void isPurse(BridgeHouse x, int purse, int... due) {
        for (int what = 0; what < due.length; what++) {
            Checks.due("purse(" + purse + ", " + what + ")", x.purse(purse, what), due[what]);
        }
    }

    private static void soundTexts() {
        BridgeHouse x = Checks.houseWith(0, 1, 2);
        x.years(5);
        Checks.gives(x, "10 for all", 1);
        isPurse(x, 1, 0, 5, 200, 10, 0, 1, 10, 0);
        Checks.gives(x, "  11   for  works   from 5  ", 2);
        isPurse(x, 2, 1, 5, 200, 11, 0, 1, 11, 0);
        Checks.gives(x, "12 for poor till 5", 3);
        isPurse(x, 3, 2, 5, 5, 12, 0, 1, 12, 0);
        Checks.gives(x, "13 for chapel yearly", 4);
        isPurse(x, 4, 3, 5, 200, 13, 1, 1, 13, 0);
        Checks.gives(x, "14 for arch 2 from 6 till 200 yearly", 5);
        isPurse(x, 5, 6, 6, 200, 0, 1, 0, 0, 0);
        Checks.gives(x, "9999 for arch 0 from 0 till 0", 6);
        isPurse(x, 6, 4, 0, 0, 9999, 0, 0, 9999, 0);
        Checks.gives(x, "1 for arch 1 till 7 yearly", 7);
        isPurse(x, 7, 5, 5, 7, 1, 1, 1, 1, 0);
        Checks.gives(x, "1 for all from 200 yearly", 8);
        isPurse(x, 8, 0, 200, 200, 0, 1, 0, 0, 0);
        Checks.due("purse(9, 0)", x.purse(9, 0), BAD);
        Checks.due("purse(-1, 0)", x.purse(-1, 0), BAD);
        Checks.due("purse(0, 8)", x.purse(0, 8), BAD);
        Checks.due("purse(0, -1)", x.purse(0, -1), BAD);
        Checks.due("count(2)", x.count(2), 9);
    }

    private static void numbersInTexts() {
        BridgeHouse x = Checks.houseWith(0);
        Checks.gives(x, "007 for arch 00 from 000 till 0003", 1);
        isPurse(x, 1, 4, 0, 3, 7, 0, 1, 7, 0);
        Checks.gives(x, "0000000000000000000000000000000000000019 for all", 2);
        isPurse(x, 2, 0, 0, 200, 19, 0, 1, 19, 0);
        Checks.gives(x, "4294967297 for all", -100);
        Checks.gives(x, "18446744073709551617 for all", -100);
        Checks.gives(x, "1 for arch 4294967296", -111);
        Checks.gives(x, "1 for all till 4294967297", -115);
        Checks.gives(x, "-1 for all", -100);
        Checks.gives(x, "+1 for all", -100);
        Checks.gives(x, "1. for all", -100);
        Checks.gives(x, "1x for all", -100);
        Checks.gives(x, "1: for all", -100);
        Checks.gives(x, "1/ for all", -100);
        Checks.gives(x, "1 for arch -0", -111);
    }

    private static void faults() {
        BridgeHouse x = Checks.houseWith(0, 1);
        Checks.gives(x, "", -100);
        Checks.gives(x, "    ", -104);
        Checks.gives(x, "  0 for all", -102);
        Checks.gives(x, "10000 for all", -100);
        Checks.gives(x, "9999", -104);
        Checks.gives(x, "5  ", -103);
        Checks.gives(x, "for all", -100);
        Checks.gives(x, "5 all", -102);
        Checks.gives(x, "5 fo all", -102);
        Checks.gives(x, "5 form all", -102);
        Checks.gives(x, "5 For all", -102);
        Checks.gives(x, "5 for", -105);
        Checks.gives(x, "5 for  ", -107);
        Checks.gives(x, "5 for 5", -106);
        Checks.gives(x, "5 for from 5", -106);
        Checks.gives(x, "5 for alle", -106);
        Checks.gives(x, "5 for work", -106);
        Checks.gives(x, "5 for Poor", -106);
        Checks.gives(x, "5 for arch", -110);
        Checks.gives(x, "5 for arch  ", -112);
        Checks.gives(x, "5 for arch 2", -111);
        Checks.gives(x, "5 for arch x", -111);
        Checks.gives(x, "5 for arch1", -106);
        Checks.gives(x, "5 for arch from 1", -111);
        Checks.gives(x, "5 for arch 1 1", -113);
        Checks.gives(x, "5 for all all", -110);
        Checks.gives(x, "5\tfor all", -100);
        Checks.gives(x, "5 for all\0", -106);
        Checks.gives(x, "5 for all \0", -110);
        Checks.gives(x, "5 for all \u00a0", -110);
        Checks.due("no purse was made", x.count(2), 1);
        Checks.due("no coins came", x.sum(), 0);
    }

    private static void faultsOfYears() {
        BridgeHouse x = Checks.houseWith(0);
        x.years(7);
        Checks.gives(x, "5 for all from", -114);
        Checks.gives(x, "5 for all from  ", -116);
        Checks.gives(x, "5 for all from x", -115);
        Checks.gives(x, "5 for all from 201", -115);
        Checks.gives(x, "5 for all from till 3", -115);
        Checks.gives(x, "5 for all from 3 from 4", -117);
        Checks.gives(x, "5 for all from 3 4", -117);
        Checks.gives(x, "5 for all till", -114);
        Checks.gives(x, "5 for all till 6", -115);
        Checks.gives(x, "5 for all till 201", -115);
        Checks.gives(x, "5 for all till 9 from 8", -117);
        Checks.gives(x, "5 for all from 9 till 8", -122);
        Checks.gives(x, "5 for all yearly till 9", -117);
        Checks.gives(x, "5 for all yearly yearly", -117);
        Checks.gives(x, "5 for all from 9 yearly x", -124);
        Checks.gives(x, "5 for all year", -110);
        Checks.gives(x, "5 for all from 9 till 9", 1);
        Checks.gives(x, "5 for all till 7", 2);
        Checks.gives(x, "5 for all from 6 till 6", 3);
    }

    private static void fullOfPurses() {
        BridgeHouse x = new BridgeHouse();
        for (int p = 1; p < 20; p++) {
            Checks.gives(x, "1 for poor", p);
        }
        Checks.gives(x, "1 for poor", FULL);
        Checks.gives(x, "1 for poorer", -106);
        Checks.due("count(2)", x.count(2), 20);
        Checks.due("sum()", x.sum(), 19);
        x.years(1);
        Checks.due("spent of all twenty", x.spend(0, 19), 19);
        Checks.due("a row of each", x.count(3), 19);
        Checks.due("the last row's purse", x.row(18, 1), 19);
    }

    private static void coming() {
        BridgeHouse x = new BridgeHouse();
        Checks.gives(x, "10 for poor", 1);
        Checks.gives(x, "20 for poor from 3", 2);
        Checks.due("the first is there at once", x.purse(1, 3), 10);
        Checks.due("the second is not", x.purse(2, 3), 0);
        Checks.due("nor is it open", x.purse(2, 5), 0);
        x.years(2);
        Checks.due("nor in year 2", x.purse(2, 3), 0);
        x.years(1);
        Checks.due("it comes in year 3", x.purse(2, 3), 20);
        Checks.due("open then", x.purse(2, 5), 1);
        Checks.due("rolled then", x.roll(3, 0), 20);
        Checks.due("rolled in year 0", x.roll(0, 0), 10);
        x.years(5);
        Checks.due("once only", x.purse(2, 6), 20);
        Checks.due("once only, the first too", x.purse(1, 6), 10);
    }

    private static void comingLate() {
        BridgeHouse x = new BridgeHouse();
        x.years(10);
        Checks.gives(x, "5 for all from 2 till 12 yearly", 1);
        Checks.gives(x, "6 for all from 2 till 5 yearly", 2);
        Checks.due("at once", x.purse(1, 3), 5);
        Checks.due("at once, if its years are over too", x.purse(2, 3), 6);
        Checks.due("but it is not open", x.purse(2, 5), 0);
        Checks.due("nor of any use", x.funds(0), 5);
        Checks.due("but in the sum", x.sum(), 11);
        x.years(1);
        Checks.due("it lapses as the next year begins", x.purse(2, 7), 6);
        Checks.due("the roll has it", x.roll(11, 6), 6);
        Checks.due("and again", x.purse(1, 3), 10);
        x.years(1);
        Checks.due("and up to till", x.purse(1, 3), 15);
        x.years(1);
        Checks.due("then all is lapsed", x.purse(1, 7), 15);
        Checks.due("no more came", x.purse(1, 6), 15);
    }

    private static void yearly() {
        BridgeHouse x = new BridgeHouse();
        Checks.gives(x, "3 for chapel from 2 till 4 yearly", 1);
        int[] coins = {0, 0, 3, 6, 9, 0, 0};
        int[] open = {0, 0, 1, 1, 1, 0, 0};
        for (int y = 0; y < coins.length; y++) {
            Checks.due("coins in year " + y, x.purse(1, 3), coins[y]);
            Checks.due("open in year " + y, x.purse(1, 5), open[y]);
            Checks.due("gifts in year " + y, x.roll(y, 0), open[y] * 3);
            x.years(1);
        }
        Checks.due("all that came", x.purse(1, 6), 9);
        Checks.due("all that lapsed", x.purse(1, 7), 9);
    }

    private static void lapsing() {
        BridgeHouse x = new BridgeHouse();
        Checks.gives(x, "10 for poor till 1", 1);
        Checks.gives(x, "7 for chapel till 1", 2);
        Checks.gives(x, "9 for all till 200", 3);
        x.spend(0, 4);
        x.years(1);
        Checks.due("still open", x.funds(0), 6 + 9);
        x.years(1);
        Checks.due("lapsed of the first", x.purse(1, 7), 6);
        Checks.due("lapsed of the second", x.purse(2, 7), 7);
        Checks.due("none left", x.purse(1, 3), 0);
        Checks.due("the year's roll", x.roll(2, 6), 13);
        Checks.due("the year ahead", x.roll(1, 6), 0);
        x.years(1);
        Checks.due("once only", x.roll(3, 6), 0);
        for (int i = 0; i < 3; i++) {
            x.years(50);
        }
        x.years(47);
        Checks.due("till 200 never lapses", x.purse(3, 3), 9);
        Checks.due("and is open", x.purse(3, 5), 1);
    }

    private static void fundsOfEnds() {
        BridgeHouse x = Checks.houseWith(0, 0);
        String[] ends = {"1 for all", "20 for works", "300 for poor", "4000 for chapel", "5000 for arch 0", "600 for arch 1"};
        for (int i = 0; i < ends.length; i++) {
            Checks.gives(x, ends[i], i + 1);
        }
        Checks.gives(x, "9000 for all from 1", 7);
        Checks.due("funds(0)", x.funds(0), 301);
        Checks.due("funds(1)", x.funds(1), 4001);
        Checks.due("funds(2)", x.funds(2), 5021);
        Checks.due("funds(3)", x.funds(3), 621);
        Checks.due("funds(4)", x.funds(4), BAD);
        Checks.due("funds(-1)", x.funds(-1), BAD);
        Checks.due("funds of the least number", x.funds(Integer.MIN_VALUE), BAD);
        Checks.due("funds of the most", x.funds(Integer.MAX_VALUE), BAD);
        x.years(1);
        Checks.due("funds(3) in year 1", x.funds(3), 9621);
    }
}
