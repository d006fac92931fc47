/** The edges of promises 6 to 9, and of what section 1 of the terms says of sheets. */
public final class SheetEdgesTest {
    private static final int BAD = BridgeHouse.BAD, NO = BridgeHouse.NO, NOTHING = BridgeHouse.NOTHING,
            INDEX = BridgeHouse.INDEX, SIZE = BridgeHouse.SIZE;
    private static final int LEAST = Integer.MIN_VALUE, MOST = Integer.MAX_VALUE;
    private static final int BYTES = 0, SHORTS = 1, INTS = 2;

    private SheetEdgesTest() {
    }

    public static void main(String[] args) {
        missingAtFirst();
        fourSheets();
        threeWidths();
        placesOfASheet();
        badAheadOfSize();
        sizeBelow0();
        allAre0();
        refusedSheetStays();
        placesToEnter();
        noPlacesToEnter();
        numbersOfAWidth();
        whatItWas();
        orderOfEnterRefusals();
        sheetsToCopy();
        missingToCopy();
        unlikeWidths();
        placesToCopyFrom();
        placesToCopyTo();
        manyToCopy();
        noneToCopy();
        asTheyWere();
        orderOfCopyRefusals();
        sheetsToLose();
        loseNothing();
        loseNoPlaces();
        yearsWithoutAPlace();
        lastYears();
        Checks.end();
    }

    /** A run with sheets 0 and 1 of shorts, with these numbers of places; place i of sheet 0 has 10 + i. */
    private static Run two(String sentence, int n, int m) {
        Run r = new Run(sentence).does("sheet", 0, SHORTS, n).does("sheet", 1, SHORTS, m);
        for (int i = 0; i < n; i++) {
            r.does("enter", 0, i, 10 + i);
        }
        return r;
    }

    private static void missingAtFirst() {
        Run r = new Run("MISSING at first").due(0, "count", 7);
        for (int s = 0; s < 4; s++) {
            r.due(NOTHING, "enter", s, 0, 0).due(NOTHING, "lose", s).due(NOTHING, "copy", s, 0, s, 0, 0);
        }
        for (int s = 0; s < 4; s++) {
            r.due(0, "sheet", s, BYTES, 0).due(s + 1, "count", 7);
        }
        r.due(5, "sheet", 0, INTS, 5).due(4, "count", 7);
    }

    private static void fourSheets() {
        Run r = new Run("FLOODS and TRAFFIC 0, 1, 2 (SHEETS 0, and 1 .. 3)");
        r.due(BAD, "sheet", LEAST, BYTES, 1).due(BAD, "sheet", -1, BYTES, 1).due(BAD, "sheet", 4, BYTES, 1);
        r.due(BAD, "sheet", MOST, BYTES, 1).due(1, "sheet", 0, BYTES, 1).due(1, "sheet", 3, BYTES, 1).due(2, "count", 7);
        r.due(BAD, "enter", LEAST, 0, 0).due(BAD, "enter", -1, 0, 0).due(BAD, "enter", 4, 0, 0).due(BAD, "enter", MOST, 0, 0);
        r.due(0, "enter", 0, 0, 1).due(0, "enter", 3, 0, 2).due(1, "enter", 0, 0, 1).due(2, "enter", 3, 0, 2);
    }

    private static void threeWidths() {
        Run r = new Run("of a WIDTH (0 bytes, 1 shorts, 2 ints)");
        r.due(BAD, "sheet", 1, LEAST, 1).due(BAD, "sheet", 1, -1, 1).due(BAD, "sheet", 1, 3, 1).due(BAD, "sheet", 1, MOST, 1);
        r.due(0, "count", 7).due(1, "sheet", 1, BYTES, 1).due(1, "sheet", 1, SHORTS, 1).due(1, "sheet", 1, INTS, 1);
    }

    private static void placesOfASheet() {
        Run r = new Run("with n places (200 at most), all 0: n. BAD: sheet, width, n above 200; SIZE.");
        r.due(SIZE, "sheet", 2, BYTES, LEAST).due(SIZE, "sheet", 2, BYTES, -1).due(0, "sheet", 2, BYTES, 0);
        r.due(INDEX, "enter", 2, 0, 0).due(200, "sheet", 2, BYTES, 200).due(0, "enter", 2, 199, 1).due(INDEX, "enter", 2, 200, 1);
        r.due(BAD, "sheet", 2, BYTES, 201).due(BAD, "sheet", 2, BYTES, MOST).due(200, "lose", 2);
    }

    private static void badAheadOfSize() {
        Run r = new Run("BAD: sheet, width, n above 200; SIZE.");
        r.due(BAD, "sheet", -1, BYTES, -1).due(BAD, "sheet", 4, BYTES, -1).due(BAD, "sheet", 0, -1, -1);
        r.due(BAD, "sheet", 0, 3, -1).due(SIZE, "sheet", 0, BYTES, -1).due(SIZE, "sheet", 3, INTS, -1).due(0, "count", 7);
    }

    private static void sizeBelow0() {
        for (int s = 0; s < 4; s++) {
            for (int width = 0; width < 3; width++) {
                Run r = new Run("SIZE: a number of places is below 0.").due(SIZE, "sheet", s, width, LEAST);
                r.due(SIZE, "sheet", s, width, -201).due(SIZE, "sheet", s, width, -1).due(0, "count", 7);
                r.due(0, "sheet", s, width, 0).due(1, "count", 7);
            }
        }
    }

    private static void allAre0() {
        Run r = two("A SHEET is there, of a WIDTH, with n places (200 at most), all 0: n.", 200, 1);
        r.due(10, "sheet", 0, SHORTS, 10).due(200, "sheet", 0, SHORTS, 200);
        for (int i = 0; i < 200; i += 9) {
            r.due(0, "enter", 0, i, 5);
        }
        r.due(200, "lose", 0).due(200, "sheet", 0, INTS, 200);
        for (int i = 0; i < 200; i += 9) {
            r.due(0, "enter", 0, i, 0);
        }
    }

    private static void refusedSheetStays() {
        Run r = two("A call that is refused answers one of BAD, NO, FULL, or a FINDING", 3, 0);
        r.due(SIZE, "sheet", 0, BYTES, -1).due(BAD, "sheet", 0, BYTES, 201).due(BAD, "sheet", 0, 3, 3);
        r.due(12, "enter", 0, 2, 1000).due(INDEX, "enter", 0, 3, 1).due(3, "lose", 0);
    }

    private static void placesToEnter() {
        Run r = two("INDEX: there is no such place", 3, 0);
        r.due(INDEX, "enter", 0, LEAST, 1).due(INDEX, "enter", 0, -1, 1).due(10, "enter", 0, 0, 1).due(12, "enter", 0, 2, 1);
        r.due(INDEX, "enter", 0, 3, 1).due(INDEX, "enter", 0, 199, 1).due(INDEX, "enter", 0, MOST, 1);
    }

    private static void noPlacesToEnter() {
        Run r = two("A place of a SHEET becomes v: what it was.", 5, 0);
        r.due(INDEX, "enter", 1, 0, 0).due(INDEX, "enter", 1, -1, 0).due(2, "sheet", 0, SHORTS, 2);
        r.due(INDEX, "enter", 0, 2, 1).due(0, "enter", 0, 1, 1);
    }

    private static void numbersOfAWidth() {
        int[] most = {100, 1000, 1000};
        for (int width = 0; width < 3; width++) {
            Run r = new Run("Numbers are 0 .. 100 (bytes), 0 .. 1000 (others).").does("sheet", 3, width, 2);
            r.due(BAD, "enter", 3, 1, LEAST).due(BAD, "enter", 3, 1, -1).due(0, "enter", 3, 1, most[width]);
            r.due(BAD, "enter", 3, 1, most[width] + 1).due(BAD, "enter", 3, 1, MOST).due(most[width], "enter", 3, 1, 0);
            r.due(0, "enter", 3, 1, 0).due(0, "enter", 3, 0, 1);
        }
    }

    private static void whatItWas() {
        Run r = new Run("A place of a SHEET becomes v: what it was.").does("sheet", 0, SHORTS, 2).does("sheet", 1, SHORTS, 2);
        r.due(0, "enter", 0, 0, 1000).due(1000, "enter", 0, 0, 1).due(1, "enter", 0, 0, 1);
        r.due(0, "enter", 0, 1, 0).due(0, "enter", 1, 0, 0);
    }

    private static void orderOfEnterRefusals() {
        Run r = new Run("BAD: sheet; NOTHING; INDEX; BAD: v is not one of the WIDTH.").does("sheet", 1, BYTES, 2);
        r.due(BAD, "enter", 4, -1, -1).due(BAD, "enter", -1, 0, 0).due(NOTHING, "enter", 0, -1, -1);
        r.due(NOTHING, "enter", 0, 0, 101).due(INDEX, "enter", 1, 2, 101).due(INDEX, "enter", 1, -1, -1);
        r.due(BAD, "enter", 1, 1, 101).due(BAD, "enter", 1, 0, -1).due(0, "enter", 1, 1, 100);
    }

    private static void sheetsToCopy() {
        Run r = two("So many places of a SHEET come to another one (or the same) of one WIDTH", 3, 3);
        int[] wrong = {LEAST, -1, 4, MOST};
        for (int s : wrong) {
            r.due(BAD, "copy", s, 0, 0, 0, 1).due(BAD, "copy", 0, 0, s, 0, 1).due(BAD, "copy", s, 0, s, 0, 1);
        }
        r.does("sheet", 3, SHORTS, 3).due(3, "copy", 0, 0, 3, 0, 3).due(12, "enter", 3, 2, 7).due(1, "copy", 3, 2, 0, 0, 1);
        r.due(7, "enter", 0, 0, 7).due(1, "copy", 0, 1, 0, 2, 1).due(11, "enter", 0, 2, 1).due(0, "enter", 1, 0, 0);
    }

    private static void missingToCopy() {
        Run r = two("NOTHING: one is MISSING", 3, 3);
        r.due(NOTHING, "copy", 0, 0, 2, 0, 1).due(NOTHING, "copy", 2, 0, 0, 0, 1).due(NOTHING, "copy", 2, 0, 3, 0, 1);
        r.due(NOTHING, "copy", 2, 0, 2, 0, 0).due(3, "lose", 1).due(NOTHING, "copy", 0, 0, 1, 0, 1);
        r.due(3, "copy", 0, 0, 0, 0, 3).due(3, "sheet", 1, SHORTS, 3).due(3, "copy", 0, 0, 1, 0, 3).due(12, "enter", 1, 2, 0);
    }

    private static void unlikeWidths() {
        for (int width = 0; width < 3; width++) {
            for (int other = 0; other < 3; other++) {
                Run r = new Run("NO: unlike WIDTHS").does("sheet", 1, width, 3).does("sheet", 2, other, 3);
                r.does("enter", 1, 0, 100).due(width == other ? 1 : NO, "copy", 1, 0, 2, 2, 1);
                r.due(width == other ? 0 : NO, "copy", 2, 0, 1, 0, 0).due(width == other ? 100 : 0, "enter", 2, 2, 0);
            }
        }
    }

    private static void placesToCopyFrom() {
        Run r = two("INDEX. (From a SHEET, its place, to a SHEET, its place.)", 5, 9);
        r.due(INDEX, "copy", 0, LEAST, 1, 0, 2).due(INDEX, "copy", 0, -1, 1, 0, 2).due(2, "copy", 0, 0, 1, 0, 2);
        r.due(2, "copy", 0, 3, 1, 2, 2).due(INDEX, "copy", 0, 4, 1, 0, 2).due(INDEX, "copy", 0, 5, 1, 0, 1);
        r.due(INDEX, "copy", 0, MOST, 1, 0, 1).due(INDEX, "copy", 0, MOST, 1, 0, 2).due(5, "copy", 0, 0, 1, 4, 5);
        r.due(INDEX, "copy", 0, 0, 1, 0, 6);
        int[] due = {10, 11, 13, 14, 10, 11, 12, 13, 14};
        for (int i = 0; i < due.length; i++) {
            r.due(due[i], "enter", 1, i, 0);
        }
    }

    private static void placesToCopyTo() {
        Run r = two("INDEX. (From a SHEET, its place, to a SHEET, its place.)", 9, 5);
        r.due(INDEX, "copy", 0, 0, 1, LEAST, 2).due(INDEX, "copy", 0, 0, 1, -1, 2).due(2, "copy", 0, 0, 1, 0, 2);
        r.due(2, "copy", 0, 7, 1, 3, 2).due(INDEX, "copy", 0, 0, 1, 4, 2).due(INDEX, "copy", 0, 0, 1, 5, 1);
        r.due(INDEX, "copy", 0, 0, 1, MOST, 1).due(INDEX, "copy", 0, 0, 1, MOST, 2).due(INDEX, "copy", 0, 0, 1, 0, 6);
        int[] due = {10, 11, 0, 17, 18};
        for (int i = 0; i < due.length; i++) {
            r.due(due[i], "enter", 1, i, 0);
        }
    }

    private static void manyToCopy() {
        Run r = two("as they were: many", 200, 200).due(200, "copy", 0, 0, 1, 0, 200);
        r.due(209, "enter", 1, 199, 0).due(10, "enter", 1, 0, 0).due(INDEX, "copy", 0, 0, 1, 0, 201);
        r.due(INDEX, "copy", 0, 0, 1, 0, MOST).due(INDEX, "copy", 0, 1, 1, 1, MOST).due(1, "copy", 0, 199, 1, 0, 1);
        r.due(INDEX, "copy", 0, 1, 1, 0, 200).due(INDEX, "copy", 0, 0, 1, 1, 200).due(209, "enter", 1, 0, 0);
        // Below 0 there are no such places either: SIZE does not stand with copy.
        r.due(INDEX, "copy", 0, 0, 1, 0, -1).due(INDEX, "copy", 0, 5, 1, 5, -1).due(INDEX, "copy", 0, 5, 1, 5, LEAST);
    }

    private static void noneToCopy() {
        Run r = two("So many places of a SHEET come to another one", 3, 2).due(0, "copy", 0, 0, 1, 0, 0);
        r.due(0, "copy", 0, 3, 1, 2, 0).due(INDEX, "copy", 0, 4, 1, 0, 0).due(INDEX, "copy", 0, 0, 1, 3, 0);
        r.due(INDEX, "copy", 0, -1, 1, 0, 0).due(INDEX, "copy", 0, 0, 1, -1, 0).does("sheet", 1, SHORTS, 0);
        r.due(0, "copy", 0, 0, 1, 0, 0).due(0, "copy", 1, 0, 1, 0, 0).due(INDEX, "copy", 0, 0, 1, 0, 1);
        r.due(INDEX, "copy", 1, 0, 0, 0, 1).due(10, "enter", 0, 0, 10);
    }

    private static void asTheyWere() {
        int[][] due = {{11, 12, 13, 14, 15, 15}, {10, 10, 11, 12, 13, 14}, {10, 11, 12, 10, 11, 12}, {10, 11, 12, 13, 14, 15}};
        int[][] places = {{1, 0, 5}, {0, 1, 5}, {0, 3, 3}, {0, 0, 6}};
        for (int i = 0; i < due.length; i++) {
            Run r = two("(or the same) of one WIDTH, as they were", 6, 0);
            r.due(places[i][2], "copy", 0, places[i][0], 0, places[i][1], places[i][2]);
            for (int place = 0; place < 6; place++) {
                r.due(due[i][place], "enter", 0, place, 0);
            }
        }
    }

    private static void orderOfCopyRefusals() {
        Run r = two("BAD; NOTHING: one is MISSING; NO: unlike WIDTHS; INDEX.", 3, 3).does("sheet", 3, INTS, 3);
        r.due(BAD, "copy", 4, -1, 2, -1, -1).due(BAD, "copy", 2, -1, 4, -1, -1).due(BAD, "copy", 3, 0, -1, 0, 1);
        r.due(NOTHING, "copy", 2, -1, 3, -1, -1).due(NOTHING, "copy", 3, -1, 2, 9, 9).due(NO, "copy", 0, -1, 3, 0, 1);
        r.due(NO, "copy", 3, 0, 0, 3, 1).due(NO, "copy", 0, 0, 3, 0, -1).due(INDEX, "copy", 0, -1, 1, 0, 1);
    }

    private static void sheetsToLose() {
        Run r = new Run("A SHEET is MISSING: how many places it had. BAD; NOTHING.");
        r.due(BAD, "lose", LEAST).due(BAD, "lose", -1).due(BAD, "lose", 4).due(BAD, "lose", MOST);
        r.does("sheet", 0, BYTES, 200).does("sheet", 3, INTS, 1).due(200, "lose", 0).due(1, "count", 7).due(1, "lose", 3);
        r.due(0, "count", 7);
    }

    private static void loseNothing() {
        Run r = new Run("NOTHING: a SHEET is MISSING").due(NOTHING, "lose", 0).does("sheet", 0, BYTES, 4);
        r.due(NOTHING, "lose", 1).due(4, "lose", 0).due(NOTHING, "lose", 0).due(NOTHING, "enter", 0, 0, 1);
        r.due(NOTHING, "copy", 0, 0, 0, 0, 0).due(0, "sheet", 0, BYTES, 0).due(0, "lose", 0).due(NOTHING, "lose", 0);
    }

    private static void loseNoPlaces() {
        Run r = new Run("SHEETS that are not MISSING").does("sheet", 2, BYTES, 0).due(1, "count", 7);
        r.due(0, "lose", 2).due(0, "count", 7).due(NOTHING, "lose", 2);
    }

    private static void yearsWithoutAPlace() {
        Run r = new Run("what a YEAR has is 0, if there is no such place").arches(0).does("rule", 0, 1);
        r.does("sheet", 0, BYTES, 3).does("sheet", 1, BYTES, 3);
        for (int place = 0; place < 3; place++) {
            r.does("enter", 0, place, 20).does("enter", 1, place, 30);
        }
        int[] strength = {1000, 970, 940, 930, 920};
        int[] tolls = {0, 30, 30, 0, 0};
        for (int year = 0; year < 5; year++) {
            r.due(strength[year], "about", 0, 1).due(tolls[year], "roll", year, 1).does("years", 1);
        }
        Run lost = new Run("what a YEAR has is 0, if there is no such place").arches(0).does("rule", 0, 1);
        lost.does("sheet", 0, BYTES, 3).does("enter", 0, 1, 20).does("sheet", 1, BYTES, 3).does("enter", 1, 1, 30);
        lost.does("lose", 0).does("lose", 1).does("years", 1).due(990, "about", 0, 1).due(0, "roll", 1, 1);
        lost.does("sheet", 0, BYTES, 0).does("sheet", 1, BYTES, 0).does("years", 1).due(980, "about", 0, 1);
    }

    private static void lastYears() {
        Run r = new Run("rows by YEARS").passes(198).arches(0).does("rule", 0, 100);
        r.does("sheet", 0, INTS, 200).does("enter", 0, 199, 1000 - 20).does("sheet", 1, INTS, 200).does("enter", 1, 199, 1000);
        r.does("years", 1).due(10, "about", 0, 1).due(100000, "roll", 199, 1);
        r.does("years", 1).due(0, "about", 0, 1).due(0, "roll", 200, 1);
    }
}
