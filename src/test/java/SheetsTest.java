/** Promises 6 to 9: sheet, enter, copy, lose. */
public final class SheetsTest {
    private static final int BAD = BridgeHouse.BAD, NO = BridgeHouse.NO, NOTHING = BridgeHouse.NOTHING,
            INDEX = BridgeHouse.INDEX, SIZE = BridgeHouse.SIZE;

    private SheetsTest() {
    }

    public static void main(String[] args) {
        sheets();
        entering();
        copying();
        copyingOntoItself();
        copyRefusals();
        losing();
        Checks.end();
    }

    private static void sheets() {
        BridgeHouse x = new BridgeHouse();
        int[][] bad = {{-1, 0, 1}, {4, 0, 1}, {0, -1, 1}, {0, 3, 1}, {0, 0, 201}, {4, 0, -1}, {0, 3, -1}};
        for (int[] b : bad) {
            Checks.due("bad sheet", x.sheet(b[0], b[1], b[2]), BAD);
        }
        Checks.due("sheet(0, 0, -1)", x.sheet(0, 0, -1), SIZE);
        Checks.due("sheet of the least size", x.sheet(0, 0, Integer.MIN_VALUE), SIZE);
        Checks.due("none is there", x.count(7), 0);
        Checks.due("sheet(3, 2, 200)", x.sheet(3, 2, 200), 200);
        Checks.due("sheet(0, 0, 0)", x.sheet(0, 0, 0), 0);
        Checks.due("two are there", x.count(7), 2);
        Checks.due("enter at the end", x.enter(3, 199, 9), 0);
        Checks.due("refused sheet", x.sheet(3, 2, -5), SIZE);
        Checks.due("the old one stays", x.enter(3, 199, 9), 9);
        Checks.due("sheet anew", x.sheet(3, 1, 200), 200);
        Checks.due("all 0", x.enter(3, 199, 0), 0);
        Checks.due("still two", x.count(7), 2);
    }

    private static void entering() {
        BridgeHouse x = new BridgeHouse();
        Checks.due("enter(4, 0, 0)", x.enter(4, 0, 0), BAD);
        Checks.due("enter(-1, 0, 0)", x.enter(-1, 0, 0), BAD);
        Checks.due("missing ahead of index and v", x.enter(0, -1, -1), NOTHING);
        x.sheet(0, 0, 3);
        x.sheet(1, 1, 3);
        x.sheet(2, 2, 0);
        Checks.due("index ahead of v", x.enter(0, 3, 101), INDEX);
        Checks.due("enter(0, -1, 0)", x.enter(0, -1, 0), INDEX);
        Checks.due("no place at all", x.enter(2, 0, 0), INDEX);
        Checks.due("bytes up to 100", x.enter(0, 2, 100), 0);
        Checks.due("bytes not above", x.enter(0, 2, 101), BAD);
        Checks.due("bytes not below 0", x.enter(0, 2, -1), BAD);
        Checks.due("what it was", x.enter(0, 2, 7), 100);
        Checks.due("shorts up to 1000", x.enter(1, 0, 1000), 0);
        Checks.due("shorts not above", x.enter(1, 0, 1001), BAD);
        x.sheet(2, 2, 1);
        Checks.due("ints up to 1000", x.enter(2, 0, 1000), 0);
        Checks.due("ints not above", x.enter(2, 0, 1001), BAD);
        Checks.due("ints kept", x.enter(2, 0, 0), 1000);
    }

    private static void copying() {
        BridgeHouse x = new BridgeHouse();
        x.sheet(0, 1, 5);
        x.sheet(2, 1, 4);
        for (int i = 0; i < 5; i++) {
            x.enter(0, i, 10 + i);
        }
        Checks.due("copy(0, 2, 2, 1, 3)", x.copy(0, 2, 2, 1, 3), 3);
        int[] due = {0, 12, 13, 14};
        for (int i = 0; i < 4; i++) {
            Checks.due("place " + i, x.enter(2, i, 0), due[i]);
        }
        Checks.due("none", x.copy(0, 5, 2, 4, 0), 0);
        Checks.due("none, but beyond", x.copy(0, 6, 2, 4, 0), INDEX);
    }

    private static void copyingOntoItself() {
        for (int step = -1; step <= 1; step += 2) {
            BridgeHouse x = new BridgeHouse();
            x.sheet(1, 0, 6);
            for (int i = 0; i < 6; i++) {
                x.enter(1, i, i);
            }
            Checks.due("copy onto itself", x.copy(1, 1, 1, 1 + step, 4), 4);
            for (int i = 0; i < 4; i++) {
                Checks.due("place as it was", x.enter(1, 1 + step + i, 0), 1 + i);
            }
        }
    }

    private static void copyRefusals() {
        BridgeHouse x = new BridgeHouse();
        x.sheet(0, 0, 5);
        x.sheet(1, 1, 5);
        x.sheet(3, 0, 3);
        Checks.due("bad from", x.copy(-1, 0, 2, 0, 1), BAD);
        Checks.due("bad to", x.copy(2, 0, 4, 0, 1), BAD);
        Checks.due("missing to", x.copy(0, -1, 2, 0, 1), NOTHING);
        Checks.due("missing from", x.copy(2, 0, 0, 0, 1), NOTHING);
        Checks.due("unlike ahead of index", x.copy(0, 9, 1, 0, 1), NO);
        Checks.due("unlike, none", x.copy(0, 0, 1, 0, 0), NO);
        int[][] places = {{-1, 0, 1}, {0, -1, 1}, {0, 0, 4}, {3, 0, 3}, {0, 1, 3}, {0, 0, -1}, {5, 0, 1},
            {Integer.MAX_VALUE, 0, 1}, {1, 0, Integer.MAX_VALUE}, {1, 1, Integer.MIN_VALUE}, {Integer.MIN_VALUE, 0, 1}};
        for (int[] p : places) {
            Checks.due("no such places " + p[0] + " " + p[1] + " " + p[2], x.copy(0, p[0], 3, p[1], p[2]), INDEX);
        }
        Checks.due("just all", x.copy(0, 2, 3, 0, 3), 3);
    }

    private static void losing() {
        BridgeHouse x = Checks.houseWith(0);
        Checks.due("lose(4)", x.lose(4), BAD);
        Checks.due("lose(-1)", x.lose(-1), BAD);
        Checks.due("lose(0)", x.lose(0), NOTHING);
        x.sheet(0, 0, 7);
        x.enter(0, 0, 50);
        Checks.due("with the flood", x.about(0, 5), 60);
        Checks.due("lose it", x.lose(0), 7);
        Checks.due("without the flood", x.about(0, 5), 10);
        Checks.due("lose it again", x.lose(0), NOTHING);
        Checks.due("enter it", x.enter(0, 0, 1), NOTHING);
        Checks.due("count(7)", x.count(7), 0);
        x.sheet(2, 1, 0);
        Checks.due("one without places is there", x.count(7), 1);
        Checks.due("lose one without places", x.lose(2), 0);
    }
}
