import java.nio.charset.StandardCharsets;

/** What the tests of the project have in common: due answers, and texts for the tape. */
final class Checks {
    private static int made = 0;
    private static int wrong = 0;

    private Checks() {
    }

    static void due(String call, long got, long want) {
        made++;
        if (got != want) {
            wrong++;
            System.out.println("  " + call + " answered " + got + ", due is " + want);
        }
    }

    static void holds(String what, boolean isSo) {
        made++;
        if (!isSo) {
            wrong++;
            System.out.println("  not so: " + what);
        }
    }

    static boolean isAnyWrong() {
        return wrong > 0;
    }

    static void end() {
        System.out.println("  " + made + " answers looked at, " + wrong + " not as due");
        if (wrong > 0 || made == 0) {
            System.exit(1);
        }
    }

    /** Puts a text of at most 48 bytes on the empty tape. */
    static void write(BridgeHouse x, String text) {
        x.trim(0);
        byte[] bytes = text.getBytes(StandardCharsets.ISO_8859_1);
        for (int at = 0; at < bytes.length; at += 12) {
            x.feed(four(bytes, at), four(bytes, at + 4), four(bytes, at + 8));
        }
        due("trim for '" + text + "'", x.trim(bytes.length), bytes.length);
    }

    /** The number that feeds four bytes of a text, from a place on; behind its end there are zeros. */
    static int four(byte[] bytes, int at) {
        int number = 0;
        for (int i = at; i < at + 4; i++) {
            number = number << 8 | (i < bytes.length ? bytes[i] & 255 : 0);
        }
        return number;
    }

    static int give(BridgeHouse x, String text) {
        write(x, text);
        return x.gift();
    }

    static void gives(BridgeHouse x, String text, int want) {
        due("gift of '" + text + "'", give(x, text), want);
        due("tape behind gift of '" + text + "'", x.count(5), 0);
    }

    static BridgeHouse houseWith(int... kinds) {
        BridgeHouse x = new BridgeHouse();
        for (int kind : kinds) {
            x.arch(kind);
        }
        return x;
    }

    static void fill(BridgeHouse x, int sheet, int width, int n, int v) {
        x.sheet(sheet, width, n);
        for (int i = 0; i < n; i++) {
            x.enter(sheet, i, v);
        }
    }
}
