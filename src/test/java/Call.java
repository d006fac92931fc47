import java.util.Arrays;

/** One call of the face by its name, so that it can be made, told, and made again on another object. */
record Call(String name, int... v) {
    int on(BridgeHouse x) {
        return switch (name) {
            case "arch" -> x.arch(v[0]);
            case "set" -> x.set(v[0], v[1], v[2]);
            case "about" -> x.about(v[0], v[1]);
            case "isOf" -> x.isOf(v[0], v[1]);
            case "sheet" -> x.sheet(v[0], v[1], v[2]);
            case "enter" -> x.enter(v[0], v[1], v[2]);
            case "copy" -> x.copy(v[0], v[1], v[2], v[3], v[4]);
            case "lose" -> x.lose(v[0]);
            case "feed" -> x.feed(v[0], v[1], v[2]);
            case "trim" -> x.trim(v[0]);
            case "gift" -> x.gift();
            case "purse" -> x.purse(v[0], v[1]);
            case "funds" -> x.funds(v[0]);
            case "rule" -> x.rule(v[0], v[1]);
            case "spend" -> x.spend(v[0], v[1]);
            case "work" -> x.work(v[0], v[1]);
            case "years" -> x.years(v[0]);
            case "row" -> x.row(v[0], v[1]);
            case "roll" -> x.roll(v[0], v[1]);
            case "sum" -> x.sum();
            case "spent" -> x.spent(v[0], v[1]);
            case "count" -> x.count(v[0]);
            default -> throw new IllegalArgumentException("no call " + name);
        };
    }

    /** Whether an answer of this call says that it was refused, or that there is none. */
    boolean isRefusal(int answer) {
        return answer <= BridgeHouse.BAD || name.equals("gift") && answer < 0;
    }

    String told() {
        String all = Arrays.toString(v);
        return name + "(" + all.substring(1, all.length() - 1) + ")";
    }
}
