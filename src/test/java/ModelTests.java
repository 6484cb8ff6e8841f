import java.util.ArrayList;
import java.util.List;
import java.util.Map;
import java.util.TreeMap;

/** Long runs of calls, the same ones each time, on a TheatreSeasons and on a SeasonModel side by side. */
public final class ModelTests {
    private static final int RUNS = 400;
    private static final int CALLS = 512;

    private final TheatreSeasons program = new TheatreSeasons();
    private final SeasonModel model = new SeasonModel();
    private final List<String> told = new ArrayList<>();
    private final Map<String, Integer> outcomes;
    private long seed;
    private boolean isWrong;

    private ModelTests(long seed, Map<String, Integer> outcomes) {
        this.seed = seed * 7919 + 17;
        this.outcomes = outcomes;
    }

    public static void main(String[] args) {
        Map<String, Integer> outcomes = new TreeMap<>();
        for (int run = 0; run < RUNS; run++) {
            ModelTests test = new ModelTests(run, outcomes);
            Checks.group("run " + run, test::run);
        }
        for (Map.Entry<String, Integer> each : outcomes.entrySet()) {
            if (args.length > 0) {
                System.out.println(each.getKey() + " " + each.getValue());
            }
        }
        Checks.end();
    }

    private int below(int bound) {
        seed = seed * 6364136223846793005L + 1442695040888963407L;
        return (int) ((seed >>> 33) % bound);
    }

    private boolean oneIn(int many) {
        return below(many) == 0;
    }

    private void run() {
        int style = below(4);
        for (int call = 0; call < CALLS && !isWrong; call++) {
            step(style);
            if (oneIn(20)) {
                compareAll();
            }
        }
        compareAll();
        Checks.tell(!isWrong, "another answer; the last calls: " + told.subList(Math.max(0, told.size() - 12), told.size()));
    }

    private void step(int style) {
        int productions = (int) model.call("account", new int[] {0});
        int kind = below(100);
        if (productions == 0 || kind < 3) {
            both("addProduction", odd(1 + below(9)), odd(1 + below(style == 0 ? 6 : 3)), odd(1 + below(50)), odd(below(101)));
        } else if (kind < 6) {
            both("subscribe", odd(1 + below(6)));
        } else if (kind < 21) {
            both("perform", index(0), odd(below(3)), odd(style == 1 ? below(8) : below(30)));
        } else if (kind < 23) {
            both("cancel", index(1));
        } else if (kind < 30) {
            both("move", index(1), odd(below(30)));
        } else if (kind < 34) {
            both("setSeats", odd(below(3)), odd(10 + below(style == 2 ? 20 : 90)));
        } else if (kind < 37) {
            both("setStaff", odd(1 + below(20)));
        } else if (kind < 40) {
            both("setRoom", odd(style == 3 ? below(100) : below(25)));
        } else if (kind < 72) {
            trade();
        } else if (kind < 82) {
            text();
        } else if (kind < 86) {
            both("undo");
        } else if (kind < 88) {
            both(oneIn(3) ? "restore" : "save");
        } else {
            question();
        }
    }

    private void trade() {
        switch (below(8)) {
            case 0: both("sell", index(1), odd(1 + below(40))); break;
            case 1: both("refund", index(1), odd(1 + below(12))); break;
            case 2: case 3: both("request", index(1), odd(1 + below(20)), odd(below(10))); break;
            case 4: case 5: both("hold", index(2), index(1)); break;
            case 6: both("release", index(2), index(1)); break;
            default: both("exchange", index(2), index(1), index(1)); break;
        }
    }

    private void question() {
        switch (below(4)) {
            case 0: both("bestMove", index(1)); break;
            case 1: both("nextDate", index(0), odd(below(3)), odd(below(30))); break;
            case 2: both("on", odd(below(3)), odd(below(30))); break;
            default: both("waiting", index(1), below(4) - 1, below(2)); break;
        }
    }

    /** A number of a production (0), performance (1) or subscription (2), seldom one too many or too few. */
    private int index(int account) {
        int count = (int) model.call("account", new int[] {account});
        return oneIn(25) ? below(count + 4) - 2 : below(Math.max(1, count));
    }

    private int odd(int usual) {
        return oneIn(60) ? new int[] {-1, -100, 0, 10, 30, 100, 101, 1000, Integer.MIN_VALUE, Integer.MAX_VALUE}[below(10)]
                : usual;
    }

    private void text() {
        StringBuilder text = new StringBuilder();
        int commands = 1 + below(5);
        for (int k = 0; k < commands; k++) {
            text.append(k > 0 ? ";" : "").append(command());
        }
        if (oneIn(4) && text.length() > 0) {
            spoil(text);
        }
        for (int k = 0; k < text.length(); k++) {
            both("append", text.charAt(k));
        }
        if (!oneIn(10)) {
            both("read");
        }
    }

    private String command() {
        switch (below(7)) {
            case 0: return "s" + number(1) + "x" + below(12);
            case 1: return "r" + number(1) + "x" + below(8);
            case 2: return "w" + number(1) + "x" + below(30) + "!" + below(10);
            case 3: return "h" + number(2) + ":" + number(1);
            case 4: return "l" + number(2) + ":" + number(1);
            case 5: return "e" + number(2) + ":" + number(1) + ">" + number(1);
            default: return "m" + number(1) + "@" + below(31);
        }
    }

    private String number(int account) {
        int number = Math.max(0, index(account));
        return number < 10 && oneIn(4) ? "0" + number : Integer.toString(number);
    }

    private void spoil(StringBuilder text) {
        int place = below(text.length());
        char sign = "srwhlemx!:>@;0123456789 ~A".charAt(below(26));
        switch (below(4)) {
            case 0: text.deleteCharAt(place); break;
            case 1: text.setCharAt(place, sign); break;
            case 2: text.insert(place, sign); break;
            default: text.setLength(place); break;
        }
    }

    private void compareAll() {
        for (int k = -1; k <= 15; k++) {
            both("account", k);
        }
        for (int date = -1; date <= 30; date++) {
            both("load", date);
            for (int what = -1; what <= 3; what++) {
                both("seats", date, what);
                both("seatsAgain", date, what);
            }
            for (int stage = 0; stage < 3; stage++) {
                both("on", stage, date);
            }
        }
        both("peak");
        both("reason", 0);
        both("reason", 1);
        both("errorPosition");
        for (int k = -1; k <= 8; k++) {
            both("partner", k);
            both("fullness", k);
            both("nextDate", k, below(3), below(30));
        }
        compareRows("production", 8, 8);
        compareRows("performance", 24, 8);
        compareRows("subscription", 10, 4);
        for (int k = -1; k <= 24; k++) {
            for (int place = -1; place < 5; place++) {
                both("waiting", k, place, 0);
                both("waiting", k, place, 1);
            }
        }
        both("bestMove", below(24));
    }

    private void compareRows(String name, int most, int kinds) {
        for (int k = -1; k <= most; k++) {
            for (int what = -1; what <= kinds; what++) {
                both(name, k, what);
            }
        }
    }

    private void both(String name, int... a) {
        if (isWrong) {
            return;
        }
        String due;
        String got;
        try {
            due = Double.toString(model.call(name, a));
        } catch (RuntimeException e) {
            due = e.getClass().getSimpleName();
        }
        try {
            got = Double.toString(ask(name, a));
        } catch (RuntimeException e) {
            got = e.getClass().getSimpleName();
        }
        isWrong = !due.equals(got);
        String outcome = name + (Character.isUpperCase(due.charAt(0)) ? " " + due : "");
        if (due.startsWith("Unsupported")) {
            outcome += " " + (int) model.call("reason", new int[] {0});
        }
        outcomes.merge(outcome, 1, Integer::sum);
        if (isWrong || !"account load seats seatsAgain on production performance subscription waiting".contains(name)) {
            told.add(name + java.util.Arrays.toString(a) + " answered " + got + (isWrong ? ", due is " + due : ""));
        }
    }

    private double ask(String name, int[] a) {
        TheatreSeasons x = program;
        switch (name) {
            case "setSeats": return x.setSeats(a[0], a[1]);
            case "setStaff": return x.setStaff(a[0]);
            case "setRoom": return x.setRoom(a[0]);
            case "addProduction": return x.addProduction(a[0], a[1], a[2], a[3]);
            case "production": return x.production(a[0], a[1]);
            case "perform": return x.perform(a[0], a[1], a[2]);
            case "cancel": return x.cancel(a[0]);
            case "move": return x.move(a[0], a[1]);
            case "performance": return x.performance(a[0], a[1]);
            case "on": return x.on(a[0], a[1]);
            case "nextDate": return x.nextDate(a[0], a[1], a[2]);
            case "bestMove": return x.bestMove(a[0]);
            case "load": return x.load(a[0]);
            case "peak": return x.peak();
            case "sell": return x.sell(a[0], a[1]);
            case "refund": return x.refund(a[0], a[1]);
            case "request": return x.request(a[0], a[1], a[2]);
            case "waiting": return x.waiting(a[0], a[1], a[2] == 1);
            case "seats": return x.seats(a[0], a[1]);
            case "seatsAgain": return x.seatsAgain(a[0], a[1]);
            case "subscribe": return x.subscribe(a[0]);
            case "hold": return x.hold(a[0], a[1]);
            case "release": return x.release(a[0], a[1]);
            case "exchange": return x.exchange(a[0], a[1], a[2]);
            case "subscription": return x.subscription(a[0], a[1]);
            case "partner": return x.partner(a[0]);
            case "fullness": return x.fullness(a[0]);
            case "reason": return x.reason(a[0] == 1);
            case "account": return x.account(a[0]);
            case "append": return x.append((char) a[0]);
            case "read": return x.read();
            case "errorPosition": return x.errorPosition();
            case "undo": return x.undo();
            case "save": return x.save();
            case "restore": return x.restore();
            default: throw new AssertionError(name);
        }
    }
}
