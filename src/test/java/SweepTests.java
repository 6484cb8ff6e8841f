import java.util.TreeMap;

/** Each call with each choice of edge values for its arguments, on seasons of several kinds, against SeasonModel. */
public final class SweepTests {
    private static final int MIN = Integer.MIN_VALUE;
    private static final int MAX = Integer.MAX_VALUE;
    private static final int[] EDGES = {MIN, -1, 0, 1, 2, 3, 4, 6, 7, 8, 9, 10, 14, 15, 23, 24, 29, 30, 99, 100, MAX};
    /** Each argument of addProduction at its edges: the product of all would be too many. */
    private static final int[] FEW = {MIN, -1, 0, 1, 6, 7, 9, 10, 50, 51, 100, 101, MAX};

    private static final String[] ONE = {"setStaff", "setRoom", "cancel", "bestMove", "load", "subscribe", "partner",
        "fullness", "account"};
    private static final String[] TWO = {"setSeats", "production", "move", "performance", "on", "sell", "refund",
        "seats", "seatsAgain", "hold", "release", "subscription"};
    private static final String[] THREE = {"perform", "nextDate", "request", "exchange"};

    private final Pair pair = new Pair(new TreeMap<>());

    private SweepTests() {
    }

    public static void main(String[] args) {
        Checks.group("an empty season", () -> new SweepTests().sweep(0));
        Checks.group("a season with little in it", () -> new SweepTests().sweep(1));
        Checks.group("a season with as much as there may be", () -> new SweepTests().sweep(2));
        Checks.group("a season without room", () -> new SweepTests().sweep(3));
        Checks.end();
    }

    private void make(int kind) {
        if (kind == 1) {
            makeSmall();
        } else if (kind == 2) {
            makeFull();
        } else if (kind == 3) {
            makeTight();
        }
    }

    private void makeSmall() {
        pair.both("addProduction", 5, 2, 9, 30);
        pair.both("addProduction", 3, 3, 20, 100);
        pair.both("perform", 0, 0, 2);
        pair.both("perform", 0, 1, 6);
        pair.both("perform", 1, 2, 4);
        pair.both("perform", 1, 0, 29);
        pair.both("subscribe", 2);
        pair.both("subscribe", 6);
        pair.both("hold", 0, 0);
        pair.both("hold", 1, 0);
        pair.both("hold", 1, 3);
        pair.both("exchange", 1, 3, 2);
        pair.both("sell", 0, 30);
        pair.both("sell", 2, 9);
        pair.both("request", 0, 3, 5);
        pair.both("request", 0, 1, 9);
        pair.both("request", 2, 80, 0);
    }

    private void makeFull() {
        pair.both("setRoom", 99);
        for (int k = 0; k < 8; k++) {
            pair.both("addProduction", 1 + k, 1, 10 + k, 10 * k);
        }
        for (int n = 0; n < 24; n++) {
            pair.both("perform", n % 8, n % 3, n / 3);
        }
        for (int k = 0; k < 10; k++) {
            pair.both("subscribe", 1 + k % 6);
            pair.both("hold", k, k);
            pair.both("hold", k, 23);
        }
        pair.both("exchange", 9, 9, 10);
        pair.both("exchange", 9, 10, 9);
        for (int k = 0; k < 20; k++) {
            pair.both("request", k % 2 * 23, 1 + k % 3, k % 10);
        }
        pair.both("sell", 0, 38);
        pair.both("sell", 23, 40);
    }

    private void makeTight() {
        pair.both("addProduction", 9, 6, 1, 0);
        pair.both("addProduction", 1, 1, 50, 1);
        pair.both("setRoom", 8);
        pair.both("perform", 1, 1, 3);
        for (int date = 0; date < 3; date++) {
            pair.both("perform", 0, 0, date);
        }
        pair.both("perform", 1, 0, 5);
        pair.both("subscribe", 6);
        pair.both("setSeats", 0, 10);
        pair.both("hold", 0, 1);
        pair.both("sell", 1, 4);
    }

    private void sweep(int kind) {
        make(kind);
        pair.both("save");
        // Behind this no change is remembered, so tryOut sees each one.
        pair.both("restore");
        pair.compareAll(0, 0);
        for (int a : EDGES) {
            for (String name : ONE) {
                tryOut(name, a);
            }
            for (int b : EDGES) {
                for (String name : TWO) {
                    tryOut(name, a, b);
                }
                tryOut("waiting", a, b, 0);
                tryOut("waiting", a, b, 1);
                for (int c : EDGES) {
                    for (String name : THREE) {
                        tryOut(name, a, b, c);
                    }
                }
            }
        }
        addProductions();
        pair.compareAll(0, 0);
        pair.check();
    }

    private void addProductions() {
        for (int a : FEW) {
            for (int b : FEW) {
                tryOut("addProduction", a, b, 1, 0);
                tryOut("addProduction", a, 1, b, 0);
                tryOut("addProduction", a, 6, 50, b);
                tryOut("addProduction", 1, a, b, 100);
                tryOut("addProduction", 9, a, 50, b);
                tryOut("addProduction", 9, 6, a, b);
            }
        }
    }

    /** Calls and, if that was a change, compares all and goes back. */
    private void tryOut(String name, int... a) {
        int before = pair.account(14);
        pair.both(name, a);
        if (pair.account(14) != before) {
            pair.compareAll(0, 0);
            pair.both("undo");
            pair.both("restore");
        }
    }
}
