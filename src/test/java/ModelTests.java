import java.util.Map;
import java.util.TreeMap;

/** Long runs of calls, the same ones each time, on a TheatreSeasons and on a SeasonModel side by side. */
public final class ModelTests {
    private static final int RUNS = 400;
    private static final int CALLS = 512;

    private final Pair pair;
    private long seed;

    private ModelTests(long seed, Map<String, Integer> outcomes) {
        this.seed = seed * 7919 + 17;
        pair = new Pair(outcomes);
    }

    public static void main(String[] args) {
        Map<String, Integer> outcomes = new TreeMap<>();
        for (int run = 0; run < RUNS; run++) {
            ModelTests test = new ModelTests(run, outcomes);
            Checks.group("run " + run, test::run);
        }
        for (Map.Entry<String, Integer> each : outcomes.entrySet()) {
            if (args.length > 0) {
                System.out.println(each.getKey() + " " + each.getValue());
            }
        }
        Checks.end();
    }

    private int below(int bound) {
        seed = seed * 6364136223846793005L + 1442695040888963407L;
        return (int) ((seed >>> 33) % bound);
    }

    private boolean oneIn(int many) {
        return below(many) == 0;
    }

    private void run() {
        int style = below(4);
        for (int call = 0; call < CALLS && !pair.isWrong(); call++) {
            step(style);
            if (oneIn(20)) {
                pair.compareAll(below(24), below(30));
            }
        }
        pair.compareAll(below(24), below(30));
        pair.check();
    }

    private void step(int style) {
        int productions = pair.account(0);
        int kind = below(100);
        if (productions == 0 || kind < 3) {
            pair.both("addProduction", odd(1 + below(9)), odd(1 + below(style == 0 ? 6 : 3)), odd(1 + below(50)), odd(below(101)));
        } else if (kind < 6) {
            pair.both("subscribe", odd(1 + below(6)));
        } else if (kind < 21) {
            pair.both("perform", index(0), odd(below(3)), odd(style == 1 ? below(8) : below(30)));
        } else if (kind < 23) {
            pair.both("cancel", index(1));
        } else if (kind < 30) {
            pair.both("move", index(1), odd(below(30)));
        } else if (kind < 34) {
            pair.both("setSeats", odd(below(3)), odd(10 + below(style == 2 ? 20 : 90)));
        } else if (kind < 37) {
            pair.both("setStaff", odd(1 + below(20)));
        } else if (kind < 40) {
            pair.both("setRoom", odd(style == 3 ? below(100) : below(25)));
        } else if (kind < 72) {
            trade();
        } else if (kind < 82) {
            text();
        } else if (kind < 86) {
            pair.both("undo");
        } else if (kind < 88) {
            pair.both(oneIn(3) ? "restore" : "save");
        } else {
            question();
        }
    }

    private void trade() {
        switch (below(8)) {
            case 0: pair.both("sell", index(1), odd(1 + below(40))); break;
            case 1: pair.both("refund", index(1), odd(1 + below(12))); break;
            case 2: case 3: pair.both("request", index(1), odd(1 + below(20)), odd(below(10))); break;
            case 4: case 5: pair.both("hold", index(2), index(1)); break;
            case 6: pair.both("release", index(2), index(1)); break;
            default: pair.both("exchange", index(2), index(1), index(1)); break;
        }
    }

    private void question() {
        switch (below(4)) {
            case 0: pair.both("bestMove", index(1)); break;
            case 1: pair.both("nextDate", index(0), odd(below(3)), odd(below(30))); break;
            case 2: pair.both("on", odd(below(3)), odd(below(30))); break;
            default: pair.both("waiting", index(1), below(4) - 1, below(2)); break;
        }
    }

    /** A number of a production (0), performance (1) or subscription (2), seldom one too many or too few. */
    private int index(int account) {
        int count = pair.account(account);
        return oneIn(25) ? below(count + 4) - 2 : below(Math.max(1, count));
    }

    private int odd(int usual) {
        return oneIn(60) ? new int[] {-1, -100, 0, 10, 30, 100, 101, 1000, Integer.MIN_VALUE, Integer.MAX_VALUE}[below(10)]
                : usual;
    }

    private void text() {
        StringBuilder text = new StringBuilder();
        int commands = 1 + below(5);
        for (int k = 0; k < commands; k++) {
            text.append(k > 0 ? ";" : "").append(command());
        }
        if (oneIn(4) && text.length() > 0) {
            spoil(text);
        }
        for (int k = 0; k < text.length(); k++) {
            pair.both("append", text.charAt(k));
        }
        if (!oneIn(10)) {
            pair.both("read");
        }
    }

    private String command() {
        switch (below(7)) {
            case 0: return "s" + number(1) + "x" + below(12);
            case 1: return "r" + number(1) + "x" + below(8);
            case 2: return "w" + number(1) + "x" + below(30) + "!" + below(10);
            case 3: return "h" + number(2) + ":" + number(1);
            case 4: return "l" + number(2) + ":" + number(1);
            case 5: return "e" + number(2) + ":" + number(1) + ">" + number(1);
            default: return "m" + number(1) + "@" + below(31);
        }
    }

    private String number(int account) {
        int number = Math.max(0, index(account));
        return number < 10 && oneIn(4) ? "0" + number : Integer.toString(number);
    }

    private void spoil(StringBuilder text) {
        int place = below(text.length());
        char sign = "srwhlemx!:>@;0123456789 ~A".charAt(below(26));
        switch (below(4)) {
            case 0: text.deleteCharAt(place); break;
            case 1: text.setCharAt(place, sign); break;
            case 2: text.insert(place, sign); break;
            default: text.setLength(place); break;
        }
    }
}
