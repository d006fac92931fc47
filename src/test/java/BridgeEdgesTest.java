import java.util.List;

/** The edges of promises 1 to 5, and of section 1 of the terms. */
public final class BridgeEdgesTest {
    private static final int BAD = BridgeHouse.BAD, NO = BridgeHouse.NO, FULL = BridgeHouse.FULL, NONE = BridgeHouse.NONE,
            NOTHING = BridgeHouse.NOTHING;
    private static final int LEAST = Integer.MIN_VALUE, MOST = Integer.MAX_VALUE;
    private static final int HOUSES = 0, WHEEL = 1;
    private static final int STRENGTH = 1, IS_FALLEN = 4, LOSS = 5, TOLD = 6, PAID = 7;

    private BridgeEdgesTest() {
    }

    public static void main(String[] args) {
        nothingAtFirst();
        noArches();
        tenArches();
        kindsOfNewOnes();
        badAheadOfFull();
        strengthIsAtMost1000();
        strengthIsAtLeast0();
        houses();
        wheel();
        whatIsSet();
        archIsSet();
        fallenHasNone();
        fallenGetsNone();
        badAheadOfNo();
        fallenOneStandsAgain();
        whatIsTold();
        archIsTold();
        paidAtAnArch();
        isOfKinds();
        isOfRefusals();
        wearWithHouses();
        scourIsCut();
        stoneIsCutTwice();
        lossesEndAt0();
        blockedWater();
        countedOnce();
        asLossesBegan();
        fallenLosesNothing();
        lossOfThisYear();
        toldWithin60Years();
        toldNotBeyond200();
        toldOfAFallenOne();
        toldWithThoseThatFallOnTheWay();
        toldWithoutWorks();
        askingChangesNothing();
        Checks.end();
    }

    /** A run with one arch of a kind and a flood in one year alone. */
    private static Run flooded(String sentence, int year, int flood, int... kinds) {
        return new Run(sentence).arches(kinds).does("sheet", 0, 1, 200).does("enter", 0, year, flood);
    }

    private static void nothingAtFirst() {
        Run r = new Run("No ARCHES; TOLLS, RENT, CREWS, LEVEL 0.");
        for (int what = 0; what < 8; what++) {
            r.due(what == 2 ? 1 : 0, "count", what);
        }
        for (int which = 0; which < 6; which++) {
            r.due(0, "rule", which, 0);
        }
        for (int what = 0; what < 7; what++) {
            r.due(0, "roll", 0, what).due(0, "roll", 200, what);
        }
        for (int s = 0; s < 4; s++) {
            r.due(NOTHING, "lose", s);
        }
        r.due(0, "sum").due(0, "spent", 0, 0).due(0, "funds", 0).due(0, "funds", 1).due(NONE, "row", 0, 0);
    }

    private static void noArches() {
        Run r = new Run("No ARCHES");
        r.due(BAD, "about", 0, 0).due(BAD, "set", 0, 0, 0).due(BAD, "isOf", 0, 0).due(BAD, "work", 0, 1);
        r.due(BAD, "funds", 2).due(BAD, "spent", 0, 2);
        r.does("rule", 4, 10).does("rule", 5, 1000).does("rule", 3, 100).does("years", 50).due(0, "sum").due(0, "count", 3);
    }

    private static void tenArches() {
        Run r = new Run("THE BRIDGE has ARCHES, 10 at most, numbered from 0 as they come");
        for (int a = 0; a < 10; a++) {
            r.due(a, "count", 0).due(BAD, "about", a, 0).due(a, "arch", a % 4).due(a % 4, "about", a, 0);
        }
        for (int kind = 0; kind < 4; kind++) {
            r.due(FULL, "arch", kind);
        }
        r.due(10, "count", 0).due(BAD, "about", 10, 0);
    }

    private static void kindsOfNewOnes() {
        Run r = new Run("of KINDS 0 ARCH, 1 STONE, 2 WOOD, 3 DRAW");
        r.due(BAD, "arch", LEAST).due(BAD, "arch", -1).due(BAD, "arch", 4).due(BAD, "arch", MOST);
        r.due(0, "arch", 0).due(1, "arch", 3).due(0, "about", 0, 0).due(3, "about", 1, 0).due(BAD, "arch", 4);
    }

    private static void badAheadOfFull() {
        Run r = new Run("One more ARCH: its number. BAD; FULL.").arches(0, 0, 0, 0, 0, 0, 0, 0, 0, 0);
        r.due(BAD, "arch", -1).due(BAD, "arch", 4).due(FULL, "arch", 0).due(FULL, "arch", 3);
    }

    private static void strengthIsAtMost1000() {
        Run r = new Run("each with a STRENGTH 0 .. 1000 (1000 at first)").arches(0, 1, 2, 3);
        for (int a = 0; a < 4; a++) {
            r.due(1000, "about", a, STRENGTH).due(0, "about", a, HOUSES + 2).due(0, "about", a, WHEEL + 2);
        }
        r.gives(1, "9999 for works").does("years", 1);
        int[] strength = {990, 995, 975, 950};
        int[] needed = {2, 2, 3, 6};
        for (int a = 0; a < 4; a++) {
            r.due(strength[a], "about", a, STRENGTH).due(needed[a], "work", a, 100000).due(1000, "about", a, STRENGTH);
        }
    }

    private static void strengthIsAtLeast0() {
        String sentence = "FALLEN is one of STRENGTH 0";
        flooded(sentence, 1, 989, 0).does("years", 1).due(1, "about", 0, STRENGTH).due(0, "about", 0, IS_FALLEN)
            .due(0, "count", 1);
        flooded(sentence, 1, 990, 0).does("years", 1).due(0, "about", 0, STRENGTH).due(1, "about", 0, IS_FALLEN)
            .due(1, "count", 1);
        flooded(sentence, 1, 991, 0).does("years", 1).due(0, "about", 0, STRENGTH).due(1, "about", 0, IS_FALLEN);
        flooded(sentence, 1, 1000, 3).does("years", 1).due(0, "about", 0, STRENGTH).due(1, "about", 0, IS_FALLEN);
    }

    private static void houses() {
        Run r = new Run("HOUSES 0 .. 4 on it").arches(0, 1);
        r.due(BAD, "set", 0, HOUSES, LEAST).due(BAD, "set", 0, HOUSES, -1).due(0, "set", 0, HOUSES, 0);
        r.due(0, "set", 0, HOUSES, 4).due(BAD, "set", 0, HOUSES, 5).due(BAD, "set", 0, HOUSES, MOST);
        r.due(4, "about", 0, 2).due(0, "about", 1, 2).due(4, "count", 6).due(4, "set", 0, HOUSES, 1).due(1, "about", 0, 2);
        Run all = new Run("HOUSES 0 .. 4 on it").arches(0, 1, 2, 3, 0, 1, 2, 3, 0, 1);
        for (int a = 0; a < 10; a++) {
            all.due(0, "set", a, HOUSES, 4).due(4 * (a + 1), "count", 6);
        }
    }

    private static void wheel() {
        Run r = new Run("WHEEL (1: 0, 1) of an ARCH become v: what it was").arches(0, 1);
        r.due(BAD, "set", 1, WHEEL, LEAST).due(BAD, "set", 1, WHEEL, -1).due(0, "set", 1, WHEEL, 0);
        r.due(0, "set", 1, WHEEL, 1).due(BAD, "set", 1, WHEEL, 2).due(BAD, "set", 1, WHEEL, MOST);
        r.due(1, "about", 1, 3).due(0, "about", 0, 3).due(1, "set", 1, WHEEL, 1).due(1, "set", 1, WHEEL, 0);
        r.due(0, "about", 1, 3).due(0, "about", 1, 2);
    }

    private static void whatIsSet() {
        Run r = new Run("HOUSES (what 0), WHEEL (1: 0, 1)").arches(0);
        r.due(BAD, "set", 0, LEAST, 0).due(BAD, "set", 0, -1, 0).due(BAD, "set", 0, 2, 0).due(BAD, "set", 0, MOST, 0);
        r.due(0, "set", 0, 0, 1).due(0, "set", 0, 1, 1).due(1, "about", 0, 2).due(1, "about", 0, 3);
    }

    private static void archIsSet() {
        Run r = new Run("HOUSES (what 0), WHEEL (1: 0, 1) of an ARCH").arches(0, 1, 2);
        r.due(BAD, "set", LEAST, 0, 1).due(BAD, "set", -1, 0, 1).due(BAD, "set", 3, 0, 1).due(BAD, "set", MOST, 0, 1);
        r.due(0, "set", 0, 0, 1).due(0, "set", 2, 0, 2).due(1, "about", 0, 2).due(0, "about", 1, 2).due(2, "about", 2, 2);
    }

    private static void fallenHasNone() {
        Run r = flooded("it has no HOUSES and no WHEEL then", 1, 1000, 0, 1);
        r.does("set", 0, HOUSES, 4).does("set", 0, WHEEL, 1).does("set", 1, HOUSES, 3).does("years", 1);
        r.due(1, "about", 0, IS_FALLEN).due(0, "about", 0, 2).due(0, "about", 0, 3);
        // Flood 1000 with one wheel makes 1100, of stone 550; three houses wear it by 11.
        r.due(0, "about", 1, IS_FALLEN).due(439, "about", 1, STRENGTH).due(3, "about", 1, 2).due(3, "count", 6);
    }

    private static void fallenGetsNone() {
        Run r = flooded("and gets none", 1, 990, 0).does("years", 1);
        r.due(NO, "set", 0, HOUSES, 0).due(NO, "set", 0, HOUSES, 4).due(NO, "set", 0, WHEEL, 0).due(NO, "set", 0, WHEEL, 1);
        r.due(0, "about", 0, 2).due(0, "about", 0, 3);
        flooded("and gets none", 1, 989, 0).does("years", 1).due(0, "set", 0, HOUSES, 4).due(0, "set", 0, WHEEL, 1);
    }

    private static void badAheadOfNo() {
        Run r = flooded("BAD; NO: it is FALLEN.", 1, 990, 0).does("years", 1);
        r.due(BAD, "set", 0, HOUSES, 5).due(BAD, "set", 0, HOUSES, -1).due(BAD, "set", 0, WHEEL, 2);
        r.due(BAD, "set", 0, WHEEL, -1).due(BAD, "set", 0, 2, 0).due(BAD, "set", 1, 0, 0).due(NO, "set", 0, 0, 0);
    }

    private static void fallenOneStandsAgain() {
        Run r = flooded("it stands again, if it gets any", 1, 1000, 0, 1, 2, 3).does("years", 1);
        r.due(3, "count", 1).gives(1, "9999 for works");
        int[] gain = {6, 4, 9, 9};
        for (int a : new int[] {0, 2, 3}) {
            r.due(1, "work", a, 1).due(gain[a], "about", a, STRENGTH).due(0, "about", a, IS_FALLEN);
            r.due(0, "about", a, 2).due(0, "about", a, 3).due(0, "set", a, HOUSES, 4).due(0, "set", a, WHEEL, 1);
        }
        r.due(0, "count", 1);
    }

    private static void whatIsTold() {
        Run r = new Run("Of an ARCH: what 0 KIND, 1 STRENGTH").arches(3);
        r.due(BAD, "about", 0, LEAST).due(BAD, "about", 0, -1).due(BAD, "about", 0, 8).due(BAD, "about", 0, MOST);
        r.does("set", 0, HOUSES, 4).does("set", 0, WHEEL, 1);
        int[] due = {3, 1000, 4, 1, 0, 82, 13, 0};
        for (int what = 0; what < 8; what++) {
            r.due(due[what], "about", 0, what);
        }
    }

    private static void archIsTold() {
        Run r = new Run("7 what was spent at it in all. BAD.").arches(1, 2, 3);
        for (int what = 0; what < 8; what++) {
            r.due(BAD, "about", -1, what).due(BAD, "about", 3, what);
        }
        r.due(BAD, "about", LEAST, 0).due(BAD, "about", MOST, 0).due(1, "about", 0, 0).due(3, "about", 2, 0);
    }

    private static void paidAtAnArch() {
        Run r = flooded("7 what was spent at it in all", 3, 1000, 0, 0).gives(1, "500 for works").does("years", 1);
        r.due(0, "about", 0, PAID).due(1, "work", 0, 1).due(1, "about", 0, PAID).due(1, "work", 0, 9).due(2, "about", 0, PAID);
        r.due(NO, "work", 0, 1).due(2, "about", 0, PAID).due(0, "about", 1, PAID).does("rule", 4, 1).does("rule", 5, 1000);
        // The keeping chooses the weaker one, at 980: 4 coins.
        r.does("years", 1).due(2, "about", 0, PAID).due(4, "about", 1, PAID);
        r.does("years", 1).due(1, "about", 0, IS_FALLEN).due(2, "about", 0, PAID).due(4, "about", 1, PAID);
    }

    private static void isOfKinds() {
        Run r = new Run("(all are ARCHES; DRAWS are WOOD, too)").arches(0, 1, 2, 3);
        int[][] due = {{1, 0, 0, 0}, {1, 1, 0, 0}, {1, 0, 1, 0}, {1, 0, 1, 1}};
        for (int a = 0; a < 4; a++) {
            for (int kind = 0; kind < 4; kind++) {
                r.due(due[a][kind], "isOf", a, kind);
            }
        }
        flooded("Whether an ARCH is of a KIND: 1, 0.", 1, 1000, 3).does("years", 1).due(1, "isOf", 0, 3).due(1, "isOf", 0, 2);
    }

    private static void isOfRefusals() {
        Run r = new Run("Whether an ARCH is of a KIND: 1, 0. BAD.").arches(2, 3);
        r.due(BAD, "isOf", LEAST, 0).due(BAD, "isOf", -1, 0).due(1, "isOf", 0, 0).due(1, "isOf", 1, 0);
        r.due(BAD, "isOf", 2, 0).due(BAD, "isOf", MOST, 0).due(BAD, "isOf", 0, LEAST).due(BAD, "isOf", 0, -1);
        r.due(0, "isOf", 0, 3).due(BAD, "isOf", 0, 4).due(BAD, "isOf", 0, MOST);
    }

    private static void wearWithHouses() {
        int[][] due = {{10, 14, 18, 22, 26}, {5, 7, 9, 11, 13}, {25, 29, 33, 37, 41}, {50, 58, 66, 74, 82}};
        Run r = new Run("WEAR: ARCH 10 and 4 for each HOUSE").arches(0, 1, 2, 3);
        for (int houses = 0; houses < 5; houses++) {
            for (int kind = 0; kind < 4; kind++) {
                r.does("set", kind, HOUSES, houses).due(due[kind][houses], "about", kind, LOSS);
            }
        }
        r.does("years", 1);
        for (int kind = 0; kind < 4; kind++) {
            r.due(1000 - due[kind][4], "about", kind, STRENGTH);
        }
    }

    private static void scourIsCut() {
        Run r = new Run("SCOUR: FLOOD * (10 + B) / 10").arches(0, 1, 2, 3).does("sheet", 0, 2, 1);
        int[] floods = {0, 1, 2, 3, 999, 1000};
        int[] ofStone = {0, 0, 1, 1, 499, 500};
        for (int i = 0; i < floods.length; i++) {
            r.does("enter", 0, 0, floods[i]).due(10 + floods[i], "about", 0, LOSS).due(5 + ofStone[i], "about", 1, LOSS);
            r.due(25 + floods[i], "about", 2, LOSS).due(50 + floods[i], "about", 3, LOSS);
        }
        Run cut = new Run("/ cuts").arches(0).does("set", 0, WHEEL, 1).does("sheet", 0, 2, 1);
        int[] withWheel = {1, 9, 10, 19, 20, 999, 1000};
        int[] scour = {1, 9, 11, 20, 22, 1098, 1100};
        for (int i = 0; i < withWheel.length; i++) {
            cut.does("enter", 0, 0, withWheel[i]).due(10 + scour[i], "about", 0, LOSS);
        }
    }

    private static void stoneIsCutTwice() {
        Run r = new Run("of STONE half of that (cut).").arches(1, 0).does("set", 1, WHEEL, 1).does("sheet", 0, 2, 2);
        int[] floods = {0, 1, 2, 9, 10, 18, 19, 20, 1000};
        // With one wheel these make 0, 1, 2, 9, 11, 19, 20, 22, 1100.
        int[] scour = {0, 0, 1, 4, 5, 9, 10, 11, 550};
        for (int i = 0; i < floods.length; i++) {
            r.does("enter", 0, 0, floods[i]).due(5 + scour[i], "about", 0, LOSS);
        }
        r.does("enter", 0, 1, 19).does("years", 1).due(985, "about", 0, STRENGTH).due(970, "about", 1, STRENGTH);
    }

    private static void lossesEndAt0() {
        flooded("(0 at least.)", 1, 991, 0).does("years", 1).due(0, "about", 0, STRENGTH).gives(1, "1 for works")
            .due(1, "work", 0, 1).due(6, "about", 0, STRENGTH);
        Run r = flooded("(0 at least.)", 1, 1000, 3, 3, 3, 3, 3, 3, 3, 3, 3, 3);
        for (int a = 0; a < 10; a++) {
            r.does("set", a, HOUSES, 4).does("set", a, WHEEL, 1);
        }
        r.does("enter", 0, 0, 1000).due(2082, "about", 9, LOSS).does("years", 1);
        for (int a = 0; a < 10; a++) {
            r.due(0, "about", a, STRENGTH);
        }
        r.due(10, "count", 1).due(0, "count", 6);
    }

    private static void blockedWater() {
        Run r = new Run("B being how many ARCHES have a WHEEL or are FALLEN").arches(0, 0, 0, 0, 0, 0, 0, 0, 0, 0);
        r.does("sheet", 0, 0, 1).does("enter", 0, 0, 10);
        for (int wheels = 0; wheels <= 10; wheels++) {
            r.due(20 + wheels, "about", 0, LOSS);
            if (wheels < 10) {
                r.does("set", wheels, WHEEL, 1);
            }
        }
        r.does("enter", 0, 0, 100).due(210, "about", 9, LOSS);
        Run all = flooded("B being how many ARCHES have a WHEEL or are FALLEN", 1, 1000, 0, 0, 0, 0, 0, 0, 0, 0, 0);
        all.does("enter", 0, 2, 10).does("years", 2).due(9, "count", 1).does("arch", 0).due(29, "about", 9, LOSS);
    }

    private static void countedOnce() {
        Run r = new Run("how many ARCHES have a WHEEL or are FALLEN").arches(3, 0).does("sheet", 0, 1, 4);
        r.does("enter", 0, 1, 800).does("enter", 0, 2, 50).does("enter", 0, 3, 20).does("set", 0, WHEEL, 1);
        r.does("years", 1).due(70, "about", 0, STRENGTH).due(110, "about", 1, STRENGTH);
        // The draw falls with its wheel, which still counts in that year; in the next it counts as fallen alone.
        r.does("years", 1).due(0, "about", 0, STRENGTH).due(45, "about", 1, STRENGTH);
        r.does("years", 1).due(13, "about", 1, STRENGTH);
    }

    private static void asLossesBegan() {
        for (int draw = 0; draw < 2; draw++) {
            Run r = new Run("All by what was so as the YEAR's losses began.").arches(draw == 0 ? 3 : 0, draw == 0 ? 0 : 3);
            r.does("sheet", 0, 1, 4).does("enter", 0, 1, 900).does("enter", 0, 2, 50).does("enter", 0, 3, 10);
            r.does("years", 1).due(50, "about", draw, STRENGTH).due(90, "about", 1 - draw, STRENGTH);
            r.does("years", 1).due(0, "about", draw, STRENGTH).due(30, "about", 1 - draw, STRENGTH);
            r.does("years", 1).due(9, "about", 1 - draw, STRENGTH);
        }
    }

    private static void fallenLosesNothing() {
        Run r = flooded("In a YEAR each ARCH that is not FALLEN loses of its STRENGTH", 1, 1000, 0);
        r.does("years", 1).due(0, "about", 0, LOSS).does("years", 5).due(0, "about", 0, STRENGTH);
        r.gives(1, "1 for works").due(1, "work", 0, 1).due(6, "about", 0, STRENGTH).due(10, "about", 0, LOSS);
    }

    private static void lossOfThisYear() {
        Run r = new Run("5 what it would lose this YEAR (as it is)").arches(0).due(10, "about", 0, LOSS);
        r.does("sheet", 0, 0, 2).does("enter", 0, 0, 7).does("enter", 0, 1, 100).due(17, "about", 0, LOSS);
        r.does("years", 1).due(110, "about", 0, LOSS).due(890, "about", 0, STRENGTH);
        r.does("years", 1).due(10, "about", 0, LOSS).due(880, "about", 0, STRENGTH);
        // It tells wear and scour, also where less than that is left to lose.
        flooded("5 what it would lose this YEAR (as it is)", 0, 1000, 0).due(1010, "about", 0, LOSS);
    }

    private static void toldWithin60Years() {
        String sentence = "within 60 YEARS";
        // 60 years of 10 take 600.
        flooded(sentence, 60, 400, 0).due(60, "about", 0, TOLD).passes(59).due(60, "about", 0, TOLD)
            .does("years", 1).due(1, "about", 0, IS_FALLEN);
        flooded(sentence, 60, 399, 0).due(NONE, "about", 0, TOLD).does("years", 1).due(61, "about", 0, TOLD);
        flooded(sentence, 61, 390, 0).due(NONE, "about", 0, TOLD).does("years", 1).due(61, "about", 0, TOLD);
        flooded(sentence, 1, 990, 0).due(1, "about", 0, TOLD);
        flooded(sentence, 0, 1000, 0).due(NONE, "about", 0, TOLD);
    }

    private static void toldNotBeyond200() {
        String sentence = "(not beyond 200)";
        new Run(sentence).passes(180).arches(3).due(200, "about", 0, TOLD).does("years", 20).due(1, "about", 0, IS_FALLEN);
        new Run(sentence).passes(181).arches(3).due(NONE, "about", 0, TOLD).does("years", 19).due(50, "about", 0, STRENGTH)
            .due(NONE, "about", 0, TOLD);
        new Run(sentence).passes(199).arches(1).does("sheet", 0, 1, 200).does("enter", 0, 199, 1000)
            .due(NONE, "about", 0, TOLD).does("years", 1).due(NONE, "about", 0, TOLD);
        new Run(sentence).passes(198).arches(0).does("sheet", 0, 1, 200).does("enter", 0, 199, 990)
            .due(199, "about", 0, TOLD);
        new Run(sentence).passes(198).arches(0).does("sheet", 0, 1, 200).does("enter", 0, 199, 980)
            .due(200, "about", 0, TOLD);
        new Run(sentence).passes(198).arches(0).does("sheet", 0, 1, 200).does("enter", 0, 199, 979)
            .due(NONE, "about", 0, TOLD);
    }

    private static void toldOfAFallenOne() {
        Run r = flooded("6 TOLD (NONE)", 1, 990, 0).due(1, "about", 0, TOLD).does("years", 1).due(NONE, "about", 0, TOLD);
        r.gives(1, "9 for works").does("work", 0, 1).due(2, "about", 0, TOLD);
    }

    private static void toldWithThoseThatFallOnTheWay() {
        Run r = new Run("those that fall on the way too").arches(3, 0).does("sheet", 0, 1, 200);
        r.does("enter", 0, 1, 900).does("enter", 0, 2, 50).does("enter", 0, 3, 18);
        // The draw falls in year 2, with 30 left to the arch: 18 * 11 / 10 and 10 make 29, so it falls in year 4.
        r.due(2, "about", 0, TOLD).due(4, "about", 1, TOLD).does("enter", 0, 3, 19).due(3, "about", 1, TOLD);
        // With a wheel flood 900 makes 990: both fall in year 1.
        r.does("set", 0, WHEEL, 1).due(1, "about", 0, TOLD).due(1, "about", 1, TOLD).does("set", 0, WHEEL, 0);
        r.due(2, "about", 0, TOLD).due(0, "about", 0, IS_FALLEN).due(1000, "about", 0, STRENGTH);
    }

    private static void toldWithoutWorks() {
        Run r = new Run("if nothing is worked and nothing else is changed but by floods and wear").arches(3);
        r.gives(1, "9999 for works yearly").does("rule", 4, 10).does("rule", 5, 1000).due(20, "about", 0, TOLD);
        r.does("years", 50).due(1000, "about", 0, STRENGTH).due(70, "about", 0, TOLD).does("set", 0, HOUSES, 4);
        r.due(63, "about", 0, TOLD);
    }

    private static void askingChangesNothing() {
        for (int what = 0; what < 8; what++) {
            Call asked = new Call("about", 1, what);
            List<Call> past = List.of(new Call("arch", 3), new Call("arch", 0), new Call("set", 1, HOUSES, 4),
                new Call("set", 0, WHEEL, 1), new Call("sheet", 0, 0, 60), new Call("enter", 0, 9, 100), new Call("years", 7));
            Checks.holds("asking " + asked.told() + " changes nothing", Unchanged.isUnchanged(past, asked));
        }
    }
}
