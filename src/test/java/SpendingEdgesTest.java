import java.util.ArrayList;
import java.util.List;

/** The edges of promises 15 to 18, and of section 3 of the terms. */
public final class SpendingEdgesTest {
    private static final int BAD = BridgeHouse.BAD, NO = BridgeHouse.NO;
    private static final int LEAST = Integer.MIN_VALUE, MOST = Integer.MAX_VALUE;
    private static final int RENT = 3, CREWS = 4, LEVEL = 5;
    private static final int STRENGTH = 1, IS_FALLEN = 4, PAID = 7;
    private static final int TOLLS = 1, RENTS = 2, WORKS = 5, LAPSED = 6;

    private SpendingEdgesTest() {
    }

    public static void main(String[] args) {
        numbersOfRules();
        whichRule();
        endsToSpendFor();
        coinsToSpend();
        notSoMany();
        badAheadOfNo();
        archToWorkAt();
        coinsToWorkFor();
        asManyAsThereAre();
        noMoreThanBringItTo1000();
        noneAreNeeded();
        thereAreNone();
        badAheadOfNoWork();
        gainOfKinds();
        fallenByHandAlone();
        yearsAtOnce();
        yearsUpTo200();
        manyYearsAreSingleOnes();
        lapsesThenComes();
        tollsOfTheYear();
        tollsWithAFallenOne();
        tollOfADraw();
        tollsAreSummed();
        rentForEachHouse();
        rentAheadOfLosses();
        keepingBehindAllElse();
        whoComesTo0();
        keepingLeavesTheFallen();
        noCrews();
        asManyTimesAsCrews();
        belowLevel();
        leastStrengthFirst();
        ofSeveralTheFirst();
        chosenOnce();
        asFewCoinsAsBringItThere();
        levelOf1000();
        Checks.end();
    }

    private static void numbersOfRules() {
        int[] most = {100, 100, 100, 100, 10, 1000};
        for (int which = 0; which < 6; which++) {
            Run r = new Run("TOLL 0, 1, 2 (which; 0 .. 100), RENT (3; 0 .. 100), CREWS (4; 0 .. 10), LEVEL (5; 0 .. 1000)");
            r.due(BAD, "rule", which, LEAST).due(BAD, "rule", which, -1).due(0, "rule", which, 0).due(0, "rule", which, 1);
            r.due(1, "rule", which, most[which]).due(BAD, "rule", which, most[which] + 1).due(BAD, "rule", which, MOST);
            for (int other = 0; other < 6; other++) {
                r.due(other == which ? most[which] : 0, "rule", other, 0);
            }
        }
    }

    private static void whichRule() {
        Run r = new Run("becomes v: what it was. BAD.").due(BAD, "rule", LEAST, 0).due(BAD, "rule", -1, 0);
        r.due(BAD, "rule", 6, 0).due(BAD, "rule", MOST, 0).due(0, "rule", 0, 7).due(0, "rule", 5, 8).due(7, "rule", 0, 7);
        r.due(8, "rule", 5, 0);
    }

    private static void endsToSpendFor() {
        Run r = new Run("n coins (1 .. 100000) are spent for poor (end 0) or chapel (1): n.").arches(0).gives(1, "50 for all");
        r.due(BAD, "spend", LEAST, 1).due(BAD, "spend", -1, 1).due(BAD, "spend", 2, 1).due(BAD, "spend", MOST, 1);
        r.due(3, "spend", 0, 3).due(4, "spend", 1, 4).rowIs(0, 0, 1, 0, 3).rowIs(1, 0, 1, 1, 4).due(2, "count", 3);
    }

    private static void coinsToSpend() {
        Run r = new Run("n coins (1 .. 100000) are spent").gives(1, "9999 for poor from 0 yearly").passes(21).due(219978, "sum");
        r.due(BAD, "spend", 0, LEAST).due(BAD, "spend", 0, -1).due(BAD, "spend", 0, 0).due(1, "spend", 0, 1);
        r.due(BAD, "spend", 0, 100001).due(BAD, "spend", 0, MOST).due(100000, "spend", 0, 100000).due(119977, "sum");
    }

    private static void notSoMany() {
        Run r = new Run("NO: there are not so many.").due(NO, "spend", 0, 1).due(NO, "spend", 1, 100000).gives(1, "5 for poor");
        r.gives(2, "7 for all").gives(3, "9 for works").gives(4, "9 for chapel from 1").due(NO, "spend", 0, 13);
        r.due(NO, "spend", 1, 8).due(12, "spend", 0, 12).due(NO, "spend", 0, 1).due(NO, "spend", 1, 1).due(2, "count", 3);
    }

    private static void badAheadOfNo() {
        Run r = new Run("BAD; NO: there are not so many.").due(BAD, "spend", 2, 1).due(BAD, "spend", 0, 0);
        r.due(BAD, "spend", 0, 100001).due(NO, "spend", 0, 100000).due(NO, "spend", 1, 1);
    }

    private static void archToWorkAt() {
        Run r = new Run("WORK at an ARCH for n coins (1 .. 100000)").gives(1, "99 for works").due(BAD, "work", 0, 1);
        r.arches(0, 0).passes(1).due(BAD, "work", LEAST, 1).due(BAD, "work", -1, 1).due(BAD, "work", 2, 1);
        r.due(BAD, "work", MOST, 1).due(1, "work", 0, 1).due(1, "work", 1, 1).rowIs(0, 1, 1, 2, 1).rowIs(1, 1, 1, 3, 1);
    }

    private static void coinsToWorkFor() {
        Run r = new Run("WORK at an ARCH for n coins (1 .. 100000)").arches(0).gives(1, "999 for works").passes(50);
        r.due(BAD, "work", 0, LEAST).due(BAD, "work", 0, -1).due(BAD, "work", 0, 0).due(BAD, "work", 0, 100001);
        r.due(BAD, "work", 0, MOST).due(1, "work", 0, 1).due(506, "about", 0, STRENGTH).due(83, "work", 0, 100000);
        r.due(1000, "about", 0, STRENGTH).due(84, "about", 0, PAID).due(915, "funds", 2);
    }

    private static void asManyAsThereAre() {
        Run r = new Run("or as many as there are").arches(0, 0).passes(50).gives(1, "5 for arch 0").gives(2, "3 for works");
        r.gives(3, "99 for arch 1").due(7, "work", 0, 7).due(542, "about", 0, STRENGTH).due(1, "work", 0, 2);
        r.due(548, "about", 0, STRENGTH).due(NO, "work", 0, 1).due(99, "sum").due(3, "count", 3);
    }

    private static void noMoreThanBringItTo1000() {
        Run r = new Run("but no more than bring it to 1000").arches(0, 0, 0).gives(1, "999 for works").passes(3);
        r.due(4, "work", 0, 4).due(994, "about", 0, STRENGTH).due(1, "work", 0, 2).due(1000, "about", 0, STRENGTH);
        r.due(5, "work", 1, 5).due(1000, "about", 1, STRENGTH).due(5, "work", 2, 6).due(999 - 15, "sum");
        Run cut = new Run("each one makes GAIN of STRENGTH (6; STONE 4; WOOD and DRAW 9), 1000 at most").arches(0, 1, 2, 3);
        cut.gives(1, "999 for works").passes(1);
        int[] needed = {2, 2, 3, 6};
        for (int a = 0; a < 4; a++) {
            cut.due(needed[a], "work", a, needed[a] + 1).due(1000, "about", a, STRENGTH).due(NO, "work", a, 1);
        }
    }

    private static void noneAreNeeded() {
        Run r = new Run("NO: none are needed, or there are none.").arches(0).gives(1, "9 for works").due(NO, "work", 0, 1);
        r.due(NO, "work", 0, 100000).due(9, "sum").due(0, "count", 3).passes(1).due(2, "work", 0, 9).due(NO, "work", 0, 1);
    }

    private static void thereAreNone() {
        Run r = new Run("NO: none are needed, or there are none.").arches(0, 0).passes(9).due(NO, "work", 0, 1);
        r.gives(1, "9 for poor").gives(2, "9 for arch 1").gives(3, "9 for works from 10").gives(4, "9 for works from 3 till 8");
        r.due(NO, "work", 0, 1).due(910, "about", 0, STRENGTH).due(0, "count", 3).passes(1).due(9, "work", 0, 99);
    }

    private static void badAheadOfNoWork() {
        Run r = new Run("BAD; NO: none are needed, or there are none.").arches(0).due(BAD, "work", 0, 0);
        r.due(BAD, "work", 1, 1).due(BAD, "work", 0, 100001).due(NO, "work", 0, 100000).due(NO, "work", 0, 1);
    }

    private static void gainOfKinds() {
        Run r = new Run("each one makes GAIN of STRENGTH (6; STONE 4; WOOD and DRAW 9)").arches(0, 1, 2, 3);
        r.gives(1, "999 for works").passes(10);
        int[] strength = {900, 950, 750, 500};
        int[] gain = {6, 4, 9, 9};
        for (int a = 0; a < 4; a++) {
            r.due(strength[a], "about", a, STRENGTH).due(1, "work", a, 1).due(strength[a] + gain[a], "about", a, STRENGTH);
            r.due(3, "work", a, 3).due(strength[a] + 4 * gain[a], "about", a, STRENGTH);
        }
    }

    private static void fallenByHandAlone() {
        Run r = new Run("(A FALLEN one can be worked at by hand alone: it stands again, if it gets any.)").arches(0, 1, 2);
        r.does("set", 0, 1, 1).does("sheet", 0, 2, 3).does("enter", 0, 1, 1000).does("enter", 0, 2, 1000).does("years", 2);
        r.due(3, "count", 1).due(NO, "work", 0, 1).due(1, "about", 0, IS_FALLEN).does("rule", CREWS, 10).does("rule", LEVEL, 1000);
        r.gives(1, "999 for works").does("years", 1).due(3, "count", 1).due(0, "count", 3);
        // From 0 to 1000: 167 of 6, 250 of 4, 112 of 9.
        r.due(167, "work", 0, 999).due(250, "work", 1, 999).due(112, "work", 2, 999).due(0, "count", 1);
        for (int a = 0; a < 3; a++) {
            r.due(1000, "about", a, STRENGTH).due(0, "about", a, IS_FALLEN);
        }
    }

    private static void yearsAtOnce() {
        Run r = new Run("n (1 .. 50) YEARS go: YEAR.").due(BAD, "years", LEAST).due(BAD, "years", -1).due(BAD, "years", 0);
        r.due(1, "years", 1).due(BAD, "years", 51).due(BAD, "years", MOST).due(51, "years", 50).due(51, "count", 4);
    }

    private static void yearsUpTo200() {
        Run r = new Run("BAD: also if it would be above 200.").arches(1).passes(150).due(BAD, "years", 51).due(200, "years", 50);
        r.due(200, "count", 4).due(BAD, "years", 1).due(BAD, "years", 50).due(BAD, "years", MOST).due(0, "about", 0, STRENGTH);
        Run last = new Run("YEAR is 0 at first, 200 at most.").due(0, "count", 4).passes(199).due(BAD, "years", 2);
        last.due(BAD, "years", 50).due(199, "count", 4).due(200, "years", 1).due(BAD, "years", 1);
        new Run("YEAR is 0 at first, 200 at most.").passes(151).due(BAD, "years", 50).due(200, "years", 49);
    }

    private static void manyYearsAreSingleOnes() {
        List<Call> past = new ArrayList<>();
        for (int a = 0; a < 8; a++) {
            past.add(new Call("arch", a % 4));
            past.add(new Call("set", a, 0, a % 5));
            past.add(new Call("set", a, 1, a % 2));
        }
        for (int which = 0; which < 6; which++) {
            past.add(new Call("rule", which, which == LEVEL ? 800 : 3));
        }
        for (int s = 0; s < 4; s++) {
            past.add(new Call("sheet", s, 0, 40));
            past.add(new Call("enter", s, 5 + s, 90));
            past.add(new Call("copy", s, 0, s, 20, 20));
        }
        List<Call> single = new ArrayList<>(past);
        for (int y = 0; y < 50; y++) {
            single.add(new Call("years", 1));
        }
        past.add(new Call("years", 50));
        Checks.holds("years(50) is fifty times years(1)", Unchanged.areAlike(past, single));
    }

    private static void lapsesThenComes() {
        Run r = new Run("(1) YEAR becomes 1 more. (2) What LAPSES; what comes to PURSES, by numbers.").gives(1, "3 for poor till 4");
        r.gives(2, "5 for poor from 5 till 5").gives(3, "7 for poor from 5 till 6 yearly").passes(4).due(3, "funds", 0);
        r.does("years", 1).due(12, "funds", 0).due(3, "roll", 5, LAPSED).due(12, "roll", 5, 0).due(0, "roll", 4, LAPSED);
        r.does("years", 1).due(14, "funds", 0).due(5, "roll", 6, LAPSED).due(7, "roll", 6, 0);
        r.does("years", 1).due(0, "sum").due(14, "roll", 7, LAPSED).due(0, "roll", 7, 0);
    }

    private static void tollsOfTheYear() {
        Run r = new Run("TOLL 0 and 1 times TRAFFIC 0, 1 of the YEAR").does("rule", 0, 100).does("rule", 1, 3);
        r.does("sheet", 1, 1, 3).does("sheet", 2, 0, 3).does("enter", 1, 0, 9).does("enter", 1, 1, 1000).does("enter", 2, 2, 100);
        r.due(0, "sum").does("years", 1).due(100000, "roll", 1, TOLLS).due(100000, "purse", 0, 3).does("years", 1);
        r.due(300, "roll", 2, TOLLS).does("years", 1).due(0, "roll", 3, TOLLS).due(100300, "purse", 0, 6).due(0, "roll", 0, TOLLS);
    }

    /** Three arches, the first a draw, and traffic 1, 10 and 100 in every year at tolls of 1; the flood of a year may take one. */
    private static Run busy(String sentence, int kind, int flood) {
        Run r = new Run(sentence).arches(kind, 1, 1).does("sheet", 0, 1, 5).does("enter", 0, 2, flood);
        int[] traffic = {1, 10, 100};
        for (int t = 0; t < 3; t++) {
            r.does("rule", t, 1).does("sheet", 1 + t, 0, 9);
            for (int y = 0; y < 9; y++) {
                r.does("enter", 1 + t, y, traffic[t]);
            }
        }
        return r;
    }

    private static void tollsWithAFallenOne() {
        Run r = busy("if no ARCH is FALLEN", 0, 980).does("years", 1).due(11, "roll", 1, TOLLS).does("years", 1);
        // It falls behind the tolls of that year.
        r.due(1, "count", 1).due(11, "roll", 2, TOLLS).does("years", 1).due(0, "roll", 3, TOLLS);
        r.gives(1, "1 for works").due(1, "work", 0, 1).does("years", 1).due(11, "roll", 4, TOLLS).due(1, "count", 1);
        r.arches(3).does("years", 1).due(100, "roll", 5, TOLLS);
        busy("if no ARCH is FALLEN", 0, 979).does("years", 2).due(0, "count", 1).does("years", 1).due(11, "roll", 3, TOLLS);
    }

    private static void tollOfADraw() {
        Run r = busy("TOLL 2 times TRAFFIC 2, if there is a DRAW that is not FALLEN", 3, 900).does("years", 2);
        r.due(111, "roll", 1, TOLLS).due(111, "roll", 2, TOLLS).due(1, "about", 0, IS_FALLEN);
        r.does("years", 1).due(0, "roll", 3, TOLLS).arches(2).does("years", 1).due(0, "roll", 4, TOLLS);
        r.arches(3).does("years", 1).due(100, "roll", 5, TOLLS).gives(1, "9 for arch 0").does("work", 0, 9);
        r.does("years", 1).due(111, "roll", 6, TOLLS);
        for (int kind = 0; kind < 3; kind++) {
            busy("if there is a DRAW that is not FALLEN", kind, 0).does("years", 1).due(11, "roll", 1, TOLLS);
        }
        busy("if there is a DRAW that is not FALLEN", 3, 0).does("years", 1).due(111, "roll", 1, TOLLS);
    }

    private static void tollsAreSummed() {
        Run r = new Run("TOLLS and RENTS come to PURSE 0").arches(3, 3, 3, 3, 3, 3, 3, 3, 3, 3);
        for (int t = 0; t < 3; t++) {
            r.does("rule", t, 100).does("sheet", 1 + t, 2, 200).does("enter", 1 + t, 1, 1000);
            for (int many = 1; many < 199; many *= 2) {
                r.does("copy", 1 + t, 1, 1 + t, 1 + many, Math.min(many, 199 - many));
            }
        }
        for (int a = 0; a < 10; a++) {
            r.does("set", a, 0, 4);
        }
        r.does("rule", RENT, 100).does("rule", CREWS, 10).does("rule", LEVEL, 1000).passes(1);
        // Each draw loses 82 and needs 10 coins.
        r.due(300000, "roll", 1, TOLLS).due(4000, "roll", 1, RENTS).due(100, "roll", 1, WORKS).due(303900, "sum");
        r.passes(199).due(300000, "roll", 199, TOLLS).due(0, "roll", 200, TOLLS).due(4000, "roll", 200, RENTS);
        r.due(199 * 300000 + 200 * 4000, "purse", 0, 6).due(199 * 300000 + 200 * 3900, "sum");
    }

    private static void rentForEachHouse() {
        Run r = new Run("RENT for each HOUSE").arches(1, 1).does("rule", RENT, 100).does("years", 1).due(0, "roll", 1, RENTS);
        r.does("set", 0, 0, 4).does("set", 1, 0, 1).does("years", 1).due(500, "roll", 2, RENTS).due(500, "purse", 0, 3);
        r.does("rule", RENT, 0).does("years", 1).due(0, "roll", 3, RENTS).does("rule", RENT, 1).does("years", 1);
        r.due(5, "roll", 4, RENTS).due(505, "purse", 0, 6).due(0, "roll", 4, TOLLS);
    }

    private static void rentAheadOfLosses() {
        Run r = new Run("(3) TOLLS and RENTS come to PURSE 0: RENT for each HOUSE").arches(0, 1).does("set", 0, 0, 4);
        r.does("set", 1, 0, 1).does("rule", RENT, 1).does("sheet", 0, 1, 3).does("enter", 0, 2, 1000).does("years", 1);
        r.due(5, "roll", 1, RENTS).does("years", 1).due(1, "about", 0, IS_FALLEN).due(5, "roll", 2, RENTS);
        r.does("years", 1).due(1, "roll", 3, RENTS);
    }

    private static void keepingBehindAllElse() {
        Run r = new Run("(5) THE KEEPING").arches(0).does("set", 0, 0, 1).does("rule", RENT, 1).does("rule", CREWS, 1);
        // 14 are lost in year 1; the one coin of rent makes 6.
        r.does("rule", LEVEL, 1000).does("years", 1).due(992, "about", 0, STRENGTH).rowIs(0, 1, 0, 2, 1).due(0, "sum");
        r.gives(1, "9 for works from 2 till 2").gives(2, "9 for works till 1").does("years", 1);
        // 22 are lacking: 4 coins of the gift that began with the year, none of the one that lapsed as it began.
        r.due(1000, "about", 0, STRENGTH).rowIs(1, 2, 1, 2, 4).due(2, "count", 3).due(9, "roll", 2, LAPSED).due(4, "roll", 2, WORKS);
    }

    private static void whoComesTo0() {
        Run r = new Run("(4) Losses; who comes to 0 is FALLEN.").arches(0, 0, 1).does("sheet", 0, 1, 4).does("enter", 0, 3, 969);
        r.does("set", 0, 0, 1).does("years", 2).due(0, "count", 1).due(972, "about", 0, STRENGTH).due(980, "about", 1, STRENGTH);
        // 972 less 14 and 969 is below 0; 980 less 979 leaves 1, and the next year takes it.
        r.does("years", 1).due(1, "about", 0, IS_FALLEN).due(0, "about", 1, IS_FALLEN).due(1, "about", 1, STRENGTH);
        r.due(1, "count", 1).due(0, "count", 6).does("years", 1).due(2, "count", 1).due(0, "about", 1, STRENGTH);
    }

    private static void keepingLeavesTheFallen() {
        Run r = new Run("of ARCHES that are not FALLEN, below LEVEL").arches(0, 1).gives(1, "999 for works");
        r.does("rule", CREWS, 10).does("rule", LEVEL, 1000).does("sheet", 0, 1, 3).does("enter", 0, 1, 990).does("years", 1);
        // The stone has lost 5 and 495: 125 coins.
        r.due(0, "about", 0, STRENGTH).due(1000, "about", 1, STRENGTH).rowIs(0, 1, 1, 3, 125).due(1, "count", 3);
        r.does("years", 5).due(0, "about", 0, STRENGTH).due(0, "about", 0, PAID).due(6, "work", 0, 6).does("years", 1);
        r.due(1000, "about", 0, STRENGTH);
    }

    private static void noCrews() {
        Run r = new Run("as many times as CREWS").arches(0).gives(1, "99 for works").does("rule", LEVEL, 1000).does("years", 1);
        r.due(990, "about", 0, STRENGTH).due(0, "count", 3).does("rule", CREWS, 1).does("years", 1).due(1000, "about", 0, STRENGTH);
        r.does("rule", CREWS, 0).does("years", 1).due(990, "about", 0, STRENGTH).due(1, "count", 3);
    }

    private static void asManyTimesAsCrews() {
        for (int crews = 0; crews <= 10; crews++) {
            Run r = new Run("as many times as CREWS").arches(0, 0, 0, 0, 0, 0, 0, 0, 0, 0).gives(1, "999 for works");
            r.does("rule", CREWS, crews).does("rule", LEVEL, 1000).does("years", 1).due(crews, "count", 3);
            r.due(crews * 2, "roll", 1, WORKS).due(crews == 0 ? 990 : 1000, "about", 0, STRENGTH);
            r.due(crews == 10 ? 1000 : 990, "about", 9, STRENGTH);
        }
        // More crews than arches: each is chosen once.
        new Run("as many times as CREWS").arches(3).gives(1, "999 for works").does("rule", CREWS, 10).does("rule", LEVEL, 1000)
            .does("years", 1).due(1, "count", 3).due(6, "roll", 1, WORKS);
    }

    private static void belowLevel() {
        int[] level = {0, 989, 990, 991, 996, 997, 1000};
        int[] strength = {990, 990, 990, 996, 996, 1000, 1000};
        int[] coins = {0, 0, 0, 1, 1, 2, 2};
        for (int i = 0; i < level.length; i++) {
            Run r = new Run("below LEVEL").arches(0).gives(1, "99 for works").does("rule", CREWS, 10);
            r.does("rule", LEVEL, level[i]).does("years", 1).due(strength[i], "about", 0, STRENGTH).due(coins[i], "about", 0, PAID);
        }
    }

    private static void leastStrengthFirst() {
        Run r = new Run("that with the least STRENGTH is chosen").arches(1, 0, 3, 2).gives(1, "999 for works");
        r.does("rule", CREWS, 4).does("rule", LEVEL, 1000).does("years", 1);
        int[] order = {2, 3, 1, 0};
        for (int i = 0; i < 4; i++) {
            r.due(2 + order[i], "row", i, 2);
        }
        Run one = new Run("that with the least STRENGTH is chosen").arches(1, 0, 3, 2).gives(1, "999 for works");
        one.does("rule", CREWS, 1).does("rule", LEVEL, 1000).does("years", 1).due(4, "row", 0, 2).due(1, "count", 3);
        // The draw has 1000 and loses 50 again, the wood has 975 and loses 25: of both with 950 it is the first.
        one.does("years", 1).due(4, "row", 1, 2).due(950, "about", 3, STRENGTH).does("years", 1).due(5, "row", 2, 2);
    }

    private static void ofSeveralTheFirst() {
        Run r = new Run("(of several the first)").arches(1, 0, 0, 0).gives(1, "999 for works").does("rule", CREWS, 2);
        r.does("rule", LEVEL, 1000).does("years", 1).due(3, "row", 0, 2).due(4, "row", 1, 2).due(2, "count", 3);
        r.due(995, "about", 0, STRENGTH).due(990, "about", 3, STRENGTH).does("years", 1).due(5, "row", 2, 2).due(2, "row", 3, 2);
    }

    private static void chosenOnce() {
        Run r = new Run("that were not chosen yet in this step").arches(3, 2, 0, 1).gives(1, "9 for arch 2").gives(2, "9 for arch 3");
        r.does("rule", CREWS, 2).does("rule", LEVEL, 1000).does("years", 1);
        // Draw and wood are chosen, and there is nothing for them; the third crew comes to the arch.
        r.due(0, "count", 3).does("rule", CREWS, 3).does("years", 1).rowIs(0, 2, 1, 4, 4).due(1, "count", 3);
        // In year 3 the stone has 985, the arch 990 again.
        r.does("rule", CREWS, 4).does("years", 1).rowIs(1, 3, 2, 5, 4).rowIs(2, 3, 1, 4, 2).due(3, "count", 3);
        Run some = new Run("as many of these as PURSES have are spent").arches(0, 1).passes(9).gives(1, "2 for works");
        some.does("rule", CREWS, 10).does("rule", LEVEL, 1000).does("years", 1).rowIs(0, 10, 1, 2, 2).due(1, "count", 3);
        some.due(912, "about", 0, STRENGTH).due(950, "about", 1, STRENGTH).due(0, "sum");
    }

    private static void asFewCoinsAsBringItThere() {
        int[] level = {904, 908, 909, 912, 913, 916};
        int[] strength = {906, 912, 912, 912, 918, 918};
        for (int i = 0; i < level.length; i++) {
            Run r = new Run("WORK up to a STRENGTH: for as few coins as bring it there.").arches(0).gives(1, "99 for works");
            r.does("years", 9).does("rule", CREWS, 1).does("rule", LEVEL, level[i]).does("years", 1);
            r.due(strength[i], "about", 0, STRENGTH).due((strength[i] - 900) / 6, "about", 0, PAID);
        }
    }

    private static void levelOf1000() {
        Run r = new Run("1000 at most. WORK up to a STRENGTH").arches(0, 1, 2, 3).gives(1, "99 for works").does("rule", CREWS, 10);
        r.does("rule", LEVEL, 1000).does("years", 1);
        int[] coins = {2, 2, 3, 6};
        for (int a = 0; a < 4; a++) {
            r.due(1000, "about", a, STRENGTH).due(coins[a], "about", a, PAID);
        }
        r.due(13, "roll", 1, WORKS).due(86, "sum");
    }
}
