import java.util.ArrayList;
import java.util.List;
import java.util.Map;

/** A TheatreSeasons and a SeasonModel that are called alike; once they answer differently, they rest. */
final class Pair {
    private final TheatreSeasons program = new TheatreSeasons();
    private final SeasonModel model = new SeasonModel();
    private final List<String> told = new ArrayList<>();
    private final Map<String, Integer> outcomes;
    private boolean isWrong;

    /** Counts in outcomes how often each call ended in which way. */
    Pair(Map<String, Integer> outcomes) {
        this.outcomes = outcomes;
    }

    boolean isWrong() {
        return isWrong;
    }

    int account(int account) {
        return (int) model.call("account", new int[] {account});
    }

    void check() {
        Checks.tell(!isWrong, "another answer; the last calls: " + told.subList(Math.max(0, told.size() - 12), told.size()));
    }

    /** Asks all questions, those that take long only for one performance and one date. */
    void compareAll(int performance, int from) {
        for (int k = -1; k <= 15; k++) {
            both("account", k);
        }
        for (int date = -1; date <= 30; date++) {
            both("load", date);
            for (int what = -1; what <= 3; what++) {
                both("seats", date, what);
                both("seatsAgain", date, what);
            }
            for (int stage = 0; stage < 3; stage++) {
                both("on", stage, date);
            }
        }
        both("peak");
        both("reason", 0);
        both("reason", 1);
        both("errorPosition");
        for (int k = -1; k <= 8; k++) {
            both("partner", k);
            both("fullness", k);
            both("nextDate", k, (from + k + 1) % 3, from);
        }
        compareRows("production", 8, 8);
        compareRows("performance", 24, 8);
        compareRows("subscription", 10, 4);
        for (int k = -1; k <= 24; k++) {
            for (int place = -1; place < 5; place++) {
                both("waiting", k, place, 0);
                both("waiting", k, place, 1);
            }
        }
        both("bestMove", performance);
    }

    private void compareRows(String name, int most, int kinds) {
        for (int k = -1; k <= most; k++) {
            for (int what = -1; what <= kinds; what++) {
                both(name, k, what);
            }
        }
    }

    void both(String name, int... a) {
        if (isWrong) {
            return;
        }
        String due;
        String got;
        try {
            due = Double.toString(model.call(name, a));
        } catch (RuntimeException e) {
            due = e.getClass().getSimpleName();
        }
        try {
            got = Double.toString(ask(name, a));
        } catch (RuntimeException e) {
            got = e.getClass().getSimpleName();
        }
        isWrong = !due.equals(got);
        String outcome = name + (Character.isUpperCase(due.charAt(0)) ? " " + due : "");
        if (due.startsWith("Unsupported")) {
            outcome += " " + (int) model.call("reason", new int[] {0});
        }
        outcomes.merge(outcome, 1, Integer::sum);
        if (isWrong || !"account load seats seatsAgain on production performance subscription waiting".contains(name)) {
            told.add(name + java.util.Arrays.toString(a) + " answered " + got + (isWrong ? ", due is " + due : ""));
        }
    }

    private double ask(String name, int[] a) {
        TheatreSeasons x = program;
        switch (name) {
            case "setSeats": return x.setSeats(a[0], a[1]);
            case "setStaff": return x.setStaff(a[0]);
            case "setRoom": return x.setRoom(a[0]);
            case "addProduction": return x.addProduction(a[0], a[1], a[2], a[3]);
            case "production": return x.production(a[0], a[1]);
            case "perform": return x.perform(a[0], a[1], a[2]);
            case "cancel": return x.cancel(a[0]);
            case "move": return x.move(a[0], a[1]);
            case "performance": return x.performance(a[0], a[1]);
            case "on": return x.on(a[0], a[1]);
            case "nextDate": return x.nextDate(a[0], a[1], a[2]);
            case "bestMove": return x.bestMove(a[0]);
            case "load": return x.load(a[0]);
            case "peak": return x.peak();
            case "sell": return x.sell(a[0], a[1]);
            case "refund": return x.refund(a[0], a[1]);
            case "request": return x.request(a[0], a[1], a[2]);
            case "waiting": return x.waiting(a[0], a[1], a[2] == 1);
            case "seats": return x.seats(a[0], a[1]);
            case "seatsAgain": return x.seatsAgain(a[0], a[1]);
            case "subscribe": return x.subscribe(a[0]);
            case "hold": return x.hold(a[0], a[1]);
            case "release": return x.release(a[0], a[1]);
            case "exchange": return x.exchange(a[0], a[1], a[2]);
            case "subscription": return x.subscription(a[0], a[1]);
            case "partner": return x.partner(a[0]);
            case "fullness": return x.fullness(a[0]);
            case "reason": return x.reason(a[0] == 1);
            case "account": return x.account(a[0]);
            case "append": return x.append((char) a[0]);
            case "read": return x.read();
            case "errorPosition": return x.errorPosition();
            case "undo": return x.undo();
            case "save": return x.save();
            case "restore": return x.restore();
            default: throw new AssertionError(name);
        }
    }
}
