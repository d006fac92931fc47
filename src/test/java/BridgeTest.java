/** Promises 1 to 5: a new object, arch, set, about, isOf. */
public final class BridgeTest {
    private static final int BAD = BridgeHouse.BAD, NO = BridgeHouse.NO, FULL = BridgeHouse.FULL, NONE = BridgeHouse.NONE;

    private BridgeTest() {
    }

    public static void main(String[] args) {
        newObject();
        arches();
        setting();
        kinds();
        wear();
        scour();
        fall();
        told();
        toldLimits();
        toldWithWheels();
        fullBridge();
        spentAtArch();
        Checks.end();
    }

    private static void newObject() {
        BridgeHouse x = new BridgeHouse();
        int[] counts = {0, 0, 1, 0, 0, 0, 0, 0};
        for (int what = 0; what < counts.length; what++) {
            Checks.due("new count(" + what + ")", x.count(what), counts[what]);
        }
        for (int which = 0; which < 6; which++) {
            Checks.due("new rule(" + which + ", 0)", x.rule(which, 0), 0);
        }
        int[] first = {0, 0, 200, 0, 0, 1, 0, 0};
        for (int what = 0; what < first.length; what++) {
            Checks.due("new purse(0, " + what + ")", x.purse(0, what), first[what]);
        }
        Checks.due("new sum()", x.sum(), 0);
        Checks.due("new about(0, 0)", x.about(0, 0), BAD);
    }

    private static void arches() {
        BridgeHouse x = new BridgeHouse();
        Checks.due("arch(-1)", x.arch(-1), BAD);
        Checks.due("arch(4)", x.arch(4), BAD);
        for (int a = 0; a < 10; a++) {
            Checks.due("arch " + a, x.arch(a % 4), a);
            Checks.due("kind of " + a, x.about(a, 0), a % 4);
            Checks.due("strength of " + a, x.about(a, 1), 1000);
        }
        Checks.due("eleventh arch", x.arch(0), FULL);
        Checks.due("eleventh arch of no kind", x.arch(4), BAD);
        Checks.due("count(0)", x.count(0), 10);
    }

    private static void setting() {
        BridgeHouse x = Checks.houseWith(0, 2);
        Checks.due("set(0, 0, 4)", x.set(0, 0, 4), 0);
        Checks.due("set(0, 0, 1)", x.set(0, 0, 1), 4);
        Checks.due("set(1, 1, 1)", x.set(1, 1, 1), 0);
        Checks.due("set(1, 1, 0)", x.set(1, 1, 0), 1);
        Checks.due("set(1, 1, 1)", x.set(1, 1, 1), 0);
        Checks.due("about(0, 2)", x.about(0, 2), 1);
        Checks.due("about(0, 3)", x.about(0, 3), 0);
        Checks.due("about(1, 2)", x.about(1, 2), 0);
        Checks.due("about(1, 3)", x.about(1, 3), 1);
        int[][] bad = {{-1, 0, 0}, {2, 0, 0}, {0, -1, 0}, {0, 2, 0}, {0, 0, -1}, {0, 0, 5}, {0, 1, -1}, {0, 1, 2}};
        for (int[] b : bad) {
            Checks.due("bad set", x.set(b[0], b[1], b[2]), BAD);
        }
        Checks.due("count(6)", x.count(6), 1);
    }

    private static void kinds() {
        BridgeHouse x = Checks.houseWith(0, 1, 2, 3);
        int[][] isOf = {{1, 0, 0, 0}, {1, 1, 0, 0}, {1, 0, 1, 0}, {1, 0, 1, 1}};
        for (int a = 0; a < 4; a++) {
            for (int k = 0; k < 4; k++) {
                Checks.due("isOf(" + a + ", " + k + ")", x.isOf(a, k), isOf[a][k]);
            }
            Checks.due("isOf(" + a + ", 4)", x.isOf(a, 4), BAD);
            Checks.due("isOf(" + a + ", -1)", x.isOf(a, -1), BAD);
        }
        Checks.due("isOf(4, 0)", x.isOf(4, 0), BAD);
        Checks.due("isOf(-1, 0)", x.isOf(-1, 0), BAD);
        Checks.due("about(-1, 0)", x.about(-1, 0), BAD);
        Checks.due("about(4, 0)", x.about(4, 0), BAD);
        Checks.due("about(0, 8)", x.about(0, 8), BAD);
        Checks.due("about(0, -1)", x.about(0, -1), BAD);
    }

    private static void wear() {
        int[][] due = {{10, 14, 18, 22, 26}, {5, 7, 9, 11, 13}, {25, 29, 33, 37, 41}, {50, 58, 66, 74, 82}};
        for (int kind = 0; kind < 4; kind++) {
            for (int houses = 0; houses < 5; houses++) {
                BridgeHouse x = Checks.houseWith(kind);
                x.set(0, 0, houses);
                Checks.due("loss of kind " + kind + " with houses " + houses, x.about(0, 5), due[kind][houses]);
                x.years(1);
                Checks.due("strength of kind " + kind, x.about(0, 1), 1000 - due[kind][houses]);
            }
        }
    }

    private static void scour() {
        BridgeHouse x = Checks.houseWith(0, 1, 2, 3);
        x.set(0, 1, 1);
        x.set(2, 1, 1);
        Checks.fill(x, 0, 1, 2, 17);
        // 17 * 12 / 10 is 20, cut.
        int[] due = {30, 15, 45, 70};
        for (int a = 0; a < 4; a++) {
            Checks.due("loss with two wheels of " + a, x.about(a, 5), due[a]);
        }
        x.sheet(0, 2, 2);
        x.enter(0, 1, 13);
        Checks.due("no flood in year 0", x.about(0, 5), 10);
        x.years(1);
        // 13 * 12 / 10 is 15; of stone 7.
        Checks.due("strength of stone", x.about(1, 1), 1000 - 5 - 7);
        Checks.due("strength of arch", x.about(0, 1), 1000 - 10 - 15);
        Checks.due("loss in year 1 as it is", x.about(1, 5), 12);
        x.lose(0);
        Checks.due("loss without floods", x.about(1, 5), 5);
    }

    private static void fall() {
        BridgeHouse x = Checks.houseWith(3, 0, 1);
        x.set(0, 0, 4);
        x.set(0, 1, 1);
        x.sheet(0, 1, 20);
        x.enter(0, 1, 900);
        x.enter(0, 2, 10);
        // Flood 900 with one wheel takes 990: the draw falls, the arch comes to just 0.
        Checks.due("years(1)", x.years(1), 1);
        for (int a = 0; a < 2; a++) {
            int[] due = {a == 0 ? 3 : 0, 0, 0, 0, 1, 0, NONE, 0};
            for (int what = 0; what < 8; what++) {
                Checks.due("fallen about(" + a + ", " + what + ")", x.about(a, what), due[what]);
            }
            Checks.due("set houses of the fallen", x.set(a, 0, 0), NO);
            Checks.due("set wheel of the fallen", x.set(a, 1, 1), NO);
            Checks.due("set of a fallen one, but bad", x.set(a, 0, 5), BAD);
        }
        Checks.due("stone stands", x.about(2, 1), 1000 - 5 - 495);
        Checks.due("count(1)", x.count(1), 2);
        Checks.due("count(6)", x.count(6), 0);
        x.years(1);
        // Two fallen ones: 10 * 12 / 10, of stone half.
        Checks.due("stone with two fallen", x.about(2, 1), 500 - 5 - 6);
    }

    private static void told() {
        BridgeHouse x = Checks.houseWith(0, 0, 3);
        Checks.fill(x, 0, 0, 200, 10);
        x.set(2, 0, 4);
        // The draw loses 92 a year and falls in year 11; then the others lose 21 a year.
        Checks.due("told of the draw", x.about(2, 6), 11);
        // 1000 - 11 * 20 is 780; 780 / 21 is 37.1: 38 years more.
        Checks.due("told of the arch", x.about(0, 6), 49);
        Checks.due("told of the other arch", x.about(1, 6), 49);
        Checks.due("asking changes nothing", x.about(2, 1), 1000);
        Checks.due("asking keeps houses", x.about(2, 2), 4);
        x.rule(4, 10);
        x.rule(5, 1000);
        x.rule(3, 100);
        Checks.due("told leaves works aside", x.about(2, 6), 11);
        x.rule(4, 0);
        x.years(10);
        Checks.due("told of the draw still", x.about(2, 6), 11);
        x.years(38);
        Checks.due("told of the arch still", x.about(0, 6), 49);
        Checks.due("it stands till then", x.about(0, 4), 0);
        x.years(1);
        Checks.due("and falls then", x.about(0, 4), 1);
        Checks.due("who is fallen falls no more", x.about(0, 6), NONE);
    }

    private static void toldLimits() {
        BridgeHouse x = Checks.houseWith(0, 1);
        Checks.fill(x, 0, 0, 200, 6);
        x.set(0, 0, 0);
        // 16 a year: 63 years, beyond 60.
        Checks.due("told beyond 60 years", x.about(0, 6), NONE);
        x.years(2);
        Checks.due("told beyond 60 years still", x.about(0, 6), NONE);
        x.years(1);
        Checks.due("told in just 60 years", x.about(0, 6), 63);
        BridgeHouse y = Checks.houseWith(0);
        y.years(50);
        y.years(50);
        y.arch(3);
        y.years(50);
        y.years(31);
        y.arch(3);
        // The second draw has 20 years of 50 left; 181 + 20 is 201.
        Checks.due("told beyond 200", y.about(2, 6), NONE);
        y.arch(3);
        y.set(3, 0, 1);
        Checks.due("told ahead of 200", y.about(3, 6), 199);
        BridgeHouse z = Checks.houseWith(0);
        for (int i = 0; i < 3; i++) {
            z.years(50);
        }
        z.years(30);
        z.arch(3);
        Checks.due("told in just 200", z.about(1, 6), 200);
        z.years(20);
        Checks.due("fallen in 200", z.about(1, 4), 1);
    }

    private static void toldWithWheels() {
        BridgeHouse x = Checks.houseWith(2, 0);
        Checks.fill(x, 0, 1, 200, 100);
        x.set(1, 1, 1);
        // Wood loses 25 and 110 a year, the arch 10 and 110; with two wheels wood loses 25 and 120.
        Checks.due("told of wood beside a wheel", x.about(0, 6), 8);
        Checks.due("told of the arch with the wheel", x.about(1, 6), 9);
        x.set(0, 1, 1);
        Checks.due("told of wood among two wheels", x.about(0, 6), 7);
        Checks.due("asking keeps wheels", x.about(1, 3), 1);
    }

    private static void fullBridge() {
        BridgeHouse x = Checks.houseWith(0, 1, 2, 3, 0, 1, 2, 3, 0, 3);
        for (int a = 0; a < 10; a++) {
            x.set(a, 0, 4);
            x.set(a, 1, 1);
        }
        Checks.fill(x, 0, 0, 200, 3);
        // 3 * 20 / 10 is 6; a draw loses 82 and 6.
        Checks.due("loss among ten wheels", x.about(9, 5), 88);
        Checks.due("told of the last", x.about(9, 6), 12);
        Checks.due("houses of ten", x.count(6), 40);
        x.rule(3, 100);
        x.rule(4, 10);
        x.rule(5, 1000);
        for (int i = 0; i < 4; i++) {
            x.years(50);
        }
        Checks.due("no flood in year 200", x.about(9, 5), 82);
        for (int a = 0; a < 10; a++) {
            Checks.due("ten crews keep arch " + a, x.about(a, 1), 1000);
        }
        BridgeHouse y = Checks.houseWith(1, 1, 1, 1, 1, 1, 1, 1, 1, 1);
        y.rule(2, 5);
        Checks.fill(y, 3, 0, 2, 9);
        y.years(1);
        Checks.due("no toll of boats without a draw", y.roll(1, 1), 0);
    }

    private static void spentAtArch() {
        BridgeHouse x = Checks.houseWith(0, 1);
        Checks.gives(x, "500 for works", 1);
        x.years(10);
        Checks.due("work(0, 3)", x.work(0, 3), 3);
        Checks.due("work(0, 2)", x.work(0, 2), 2);
        Checks.due("work(1, 4)", x.work(1, 4), 4);
        Checks.due("about(0, 7)", x.about(0, 7), 5);
        Checks.due("about(1, 7)", x.about(1, 7), 4);
    }
}
