/**
 * Every call's refusals on a house in the midst of its years and on one that is full: of several the one that stands
 * first, and (as Run looks at with each of them) nothing is changed but the tape, where told.
 */
public final class RefusalsTest {
    private static final int BAD = BridgeHouse.BAD, NO = BridgeHouse.NO, FULL = BridgeHouse.FULL, NONE = BridgeHouse.NONE,
            NOTHING = BridgeHouse.NOTHING, INDEX = BridgeHouse.INDEX, SIZE = BridgeHouse.SIZE;
    private static final int LEAST = Integer.MIN_VALUE, MOST = Integer.MAX_VALUE;
    private static final String SENTENCE = "of several the one that stands first with it, and changes nothing";

    private RefusalsTest() {
    }

    public static void main(String[] args) {
        ofTheBridge(midst());
        ofTheBridge(full());
        ofSheets(midst());
        ofSheetsThatAreFull(full());
        ofGifts(midst());
        ofGiftsThatAreFull(full());
        ofSpending(midst());
        ofSpendingInTheLastYear(full());
        ofTheBook(midst(), 4, 5);
        ofTheBook(full(), 20, 12);
        Checks.end();
    }

    /** Arches 0, 1, 2 of which 0 is fallen; sheets of each width, 3 missing; four purses, one of them shut; a text on the tape. */
    private static Run midst() {
        Run r = new Run(SENTENCE).arches(0, 1, 3).does("set", 1, 0, 3).does("set", 2, 1, 1).does("set", 2, 0, 1);
        for (int which = 0; which < 4; which++) {
            r.does("rule", which, 2 + which);
        }
        r.does("rule", 4, 2).does("rule", 5, 700).does("sheet", 0, 1, 90).does("enter", 0, 3, 1000).does("enter", 0, 70, 30);
        r.does("sheet", 1, 0, 40).does("enter", 1, 5, 44).does("sheet", 2, 2, 3).does("enter", 2, 2, 1000);
        r.gives(1, "30 for poor yearly").gives(2, "44 for arch 1 till 9").gives(3, "70 for works from 60").does("years", 12);
        r.does("spend", 0, 25).does("spend", 1, 3).does("work", 1, 1).due(2, "count", 1).does("work", 2, 40);
        return r.due(1, "count", 1).due(1, "about", 0, 4).writes("77 for chapel till 90 yearly         ");
    }

    /** Ten arches, twenty purses, 48 bytes, 200 rows, four sheets of 200 places, and year 200. */
    private static Run full() {
        Run r = new Run(SENTENCE).arches(0, 1, 2, 3, 0, 1, 2, 3, 0, 1).does("rule", 3, 100).does("rule", 4, 10).does("rule", 5, 990);
        for (int a = 0; a < 10; a++) {
            r.does("set", a, 0, 4).does("set", a, 1, 1);
        }
        for (int s = 0; s < 4; s++) {
            r.does("sheet", s, s == 3 ? 0 : s, 200).does("enter", s, 199, 100);
        }
        for (int p = 1; p < 20; p++) {
            r.gives(p, p % 2 == 0 ? "9 for poor" : "8 for chapel from 200");
        }
        r.passes(200).does("spend", 0, 11).writes("     44 for chapel from 7 till 200 yearly       ");
        return r.due(10, "count", 0).due(20, "count", 2).due(200, "count", 3).due(200, "count", 4).due(48, "count", 5);
    }

    private static void ofTheBridge(Run r) {
        int[] wrong = {LEAST, -1, 10, MOST};
        for (int w : wrong) {
            r.due(BAD, "arch", w).due(BAD, "set", w, 0, 0).due(BAD, "set", 0, w, 0).due(BAD, "set", 1, 0, w);
            r.due(BAD, "set", 1, 1, w).due(BAD, "about", w, 0).due(BAD, "about", 0, w).due(BAD, "isOf", w, 0).due(BAD, "isOf", 0, w);
        }
        r.due(BAD, "arch", 4).due(BAD, "set", 1, 0, 5).due(BAD, "set", 1, 1, 2).due(BAD, "set", 1, 2, 0).due(BAD, "isOf", 1, 4);
    }

    private static void ofSheets(Run r) {
        r.due(NO, "set", 0, 0, 1).due(NO, "set", 0, 1, 0).due(BAD, "set", 3, 0, 1);
        r.due(BAD, "sheet", 4, 0, 9).due(BAD, "sheet", 0, 3, 9).due(BAD, "sheet", 0, 0, 201).due(SIZE, "sheet", 0, 0, -1);
        r.due(BAD, "sheet", 4, 0, -1).due(BAD, "sheet", 0, 3, -1).due(SIZE, "sheet", 3, 2, LEAST);
        r.due(BAD, "enter", 4, 0, 1).due(NOTHING, "enter", 3, 90, -1).due(INDEX, "enter", 0, 90, -1).due(INDEX, "enter", 2, -1, 1);
        r.due(BAD, "enter", 0, 3, 1001).due(BAD, "enter", 1, 5, 101).due(BAD, "enter", 2, 2, -1);
        r.due(BAD, "copy", 4, 0, 3, 0, 1).due(NOTHING, "copy", 0, 0, 3, 0, 1).due(NOTHING, "copy", 3, -1, 0, 0, 1);
        r.due(NO, "copy", 0, -1, 1, 0, 1).due(NO, "copy", 2, 0, 0, 0, 3).due(INDEX, "copy", 0, 3, 0, 88, 3);
        r.due(INDEX, "copy", 0, 88, 0, 0, 3).due(INDEX, "copy", 0, 3, 0, 0, -1).due(BAD, "lose", 4).due(NOTHING, "lose", 3);
    }

    private static void ofSheetsThatAreFull(Run r) {
        r.due(FULL, "arch", 0).due(FULL, "arch", 3).due(BAD, "arch", 4);
        r.due(BAD, "sheet", 0, 0, 201).due(SIZE, "sheet", 3, 0, -1).due(INDEX, "enter", 0, 200, 1).due(INDEX, "enter", 0, -1, 1);
        r.due(BAD, "enter", 0, 199, 101).due(BAD, "enter", 1, 199, 1001).due(NO, "copy", 0, 0, 1, 0, 1).due(NO, "copy", 1, 0, 2, 0, 1);
        r.due(INDEX, "copy", 0, 1, 3, 0, 200).due(INDEX, "copy", 0, 0, 3, 1, 200).due(INDEX, "copy", 3, 199, 0, 199, 2);
        r.due(INDEX, "copy", 0, 0, 0, 0, 201).due(INDEX, "copy", 3, 200, 0, 0, 1).due(BAD, "lose", -1);
    }

    private static void ofGifts(Run r) {
        r.due(FULL, "feed", 1, 2, 3).due(BAD, "trim", 38).due(BAD, "trim", -1).due(BAD, "purse", 4, 0).due(BAD, "purse", 0, 8);
        r.due(BAD, "funds", 5).due(BAD, "funds", -1);
    }

    private static void ofGiftsThatAreFull(Run r) {
        r.due(FULL, "feed", 0x39393939, 0x39393939, 0x39393939).due(BAD, "trim", 49).due(BAD, "trim", LEAST);
        r.due(BAD, "purse", 20, 0).due(BAD, "purse", 19, 8).due(BAD, "funds", 12).due(BAD, "funds", LEAST);
        r.due(FULL, "gift").due(-100, "gift").gives(-107, " 5 for none").gives(-118, "5 for arch 9 from 201").gives(FULL, "5 for arch 9");
    }

    private static void ofSpending(Run r) {
        r.due(BAD, "rule", 6, 0).due(BAD, "rule", 0, 101).due(BAD, "rule", 4, 11).due(BAD, "rule", 5, 1001).due(BAD, "rule", 3, -1);
        r.due(BAD, "spend", 2, 1).due(BAD, "spend", 0, 0).due(BAD, "spend", 1, 100001).due(NO, "spend", 1, 99999);
        r.due(BAD, "work", 3, 1).due(BAD, "work", 0, 0).due(BAD, "work", 0, 100001);
        r.due(BAD, "years", 0).due(BAD, "years", 51).due(BAD, "years", LEAST).due(BAD, "years", MOST);
    }

    private static void ofSpendingInTheLastYear(Run r) {
        r.due(BAD, "rule", -1, 0).due(BAD, "rule", 2, -1).due(BAD, "spend", -1, 1).due(BAD, "spend", 0, -1).due(BAD, "work", 10, 1);
        r.due(BAD, "years", 1).due(BAD, "years", 50).due(BAD, "years", -1).does("work", 0, 100000).due(NO, "work", 0, 1);
        r.due(NO, "work", 0, 100000);
    }

    private static void ofTheBook(Run r, int purses, int ends) {
        int[] wrong = {LEAST, -1, 201, MOST};
        for (int w : wrong) {
            r.due(w < 0 ? BAD : NONE, "row", w, 0).due(BAD, "row", 0, w).due(BAD, "roll", w, 0).due(BAD, "roll", 0, w);
            r.due(BAD, "spent", w, 0).due(BAD, "spent", 0, w).due(BAD, "count", w);
        }
        r.due(NONE, "row", 200, 3).due(BAD, "row", 0, 4).due(BAD, "roll", 200, 7).due(BAD, "spent", purses, 0);
        r.due(BAD, "spent", 0, ends).due(BAD, "count", 8);
    }
}
