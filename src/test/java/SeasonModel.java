import java.util.ArrayDeque;
import java.util.ArrayList;
import java.util.Comparator;
import java.util.List;
import java.util.NoSuchElementException;
import java.util.TreeSet;
import java.util.regex.Matcher;
import java.util.regex.Pattern;

/**
 * The document once more, written from its words in another way than the program: what is refused
 * is found by doing it on a copy and looking at the copy, texts are regular expressions.
 */
final class SeasonModel {
    private static final Pattern TEXT;
    private static final String NUMBER = "(\\d\\d?)";

    static {
        String n = "\\d\\d?";
        String command = "(?:[sr]" + n + "x" + n + "|w" + n + "x" + n + "!\\d|[hl]" + n + ":" + n
                + "|e" + n + ":" + n + ">" + n + "|m" + n + "@" + n + ")";
        TEXT = Pattern.compile(command + "(?:;" + command + ")*");
    }

    private static final class Production {
        int size;
        int crew;
        int price;
        int share;
    }

    private static final class Request {
        int seats;
        int priority;
    }

    private static final class Subscription {
        int seats;
        int exchanges;
    }

    private static final class Performance {
        int production;
        int stage;
        int date;
        int sold;
        TreeSet<Integer> holders = new TreeSet<>();
        List<Request> requests = new ArrayList<>();

        Performance copy() {
            Performance twin = new Performance();
            twin.production = production;
            twin.stage = stage;
            twin.date = date;
            twin.sold = sold;
            twin.holders.addAll(holders);
            twin.requests.addAll(requests);
            return twin;
        }
    }

    private static final class World {
        int[] stages = {40, 60, 80};
        int staff = 6;
        int room = 20;
        List<Production> productions = new ArrayList<>();
        List<Performance> performances = new ArrayList<>();
        List<Subscription> subscriptions = new ArrayList<>();

        World copy() {
            World twin = new World();
            twin.stages = stages.clone();
            twin.staff = staff;
            twin.room = room;
            twin.productions.addAll(productions);
            for (Performance each : performances) {
                twin.performances.add(each.copy());
            }
            for (Subscription each : subscriptions) {
                Subscription other = new Subscription();
                other.seats = each.seats;
                other.exchanges = each.exchanges;
                twin.subscriptions.add(other);
            }
            return twin;
        }

        TreeSet<Integer> dates(int production) {
            TreeSet<Integer> dates = new TreeSet<>();
            for (Performance each : performances) {
                if (each.production == production) {
                    dates.add(each.date);
                }
            }
            return dates;
        }

        int load(int date) {
            int load = 0;
            for (int k = 0; k < productions.size(); k++) {
                TreeSet<Integer> dates = dates(k);
                if (!dates.isEmpty() && date >= dates.first() && date <= dates.last() && !dates.contains(date)) {
                    load += productions.get(k).size;
                }
            }
            return load;
        }

        int peak() {
            int peak = 0;
            for (int date = 0; date < 30; date++) {
                peak = Math.max(peak, load(date));
            }
            return peak;
        }

        int held(Performance performance) {
            int held = 0;
            for (int k : performance.holders) {
                held += subscriptions.get(k).seats;
            }
            return held;
        }

        int free(Performance performance) {
            return stages[performance.stage] - performance.sold - held(performance);
        }

        int heldAt(int subscription) {
            int count = 0;
            for (Performance each : performances) {
                count += each.holders.contains(subscription) ? 1 : 0;
            }
            return count;
        }

        int takings(int production) {
            Production made = productions.get(production);
            int sum = 0;
            for (Performance each : performances) {
                if (each.production == production) {
                    sum += made.price * each.sold + (int) Math.floor(made.price * 0.8 + 1e-9) * held(each);
                }
            }
            return sum;
        }

        void serve(Performance performance) {
            while (!performance.requests.isEmpty() && performance.requests.get(0).seats <= free(performance)) {
                performance.sold += performance.requests.remove(0).seats;
            }
        }

        /** What is wrong with this world, as {reason, detail}; null if nothing. */
        int[] fault() {
            for (int date = 0; date < 30; date++) {
                int crew = 0;
                for (Performance each : performances) {
                    crew += each.date == date ? productions.get(each.production).crew : 0;
                }
                if (crew > staff) {
                    return new int[] {2, crew - staff};
                }
            }
            for (int date = 0; date < 30; date++) {
                if (load(date) > room) {
                    return new int[] {3, date};
                }
            }
            return null;
        }
    }

    private World world = new World();
    private World saved;
    private ArrayDeque<World> past = new ArrayDeque<>();
    private String input = "";
    private int reason = -1;
    private int detail = -1;
    private int errorPosition = -1;

    /** Answers as TheatreSeasons does; numbers of all types as doubles. */
    double call(String name, int[] a) {
        switch (name) {
            case "setSeats": case "setStaff": case "setRoom": case "addProduction": case "perform":
            case "cancel": case "move": case "sell": case "refund": case "request": case "subscribe":
            case "hold": case "release": case "exchange":
                return change(name, a);
            case "append": return append(a[0]);
            case "read": return read();
            case "undo": return undo();
            case "save":
                saved = world.copy();
                return world.performances.size();
            case "restore":
                state(saved != null);
                world = saved.copy();
                past.clear();
                return world.performances.size();
            default: return ask(name, a);
        }
    }

    private double change(String name, int[] a) {
        World before = world.copy();
        try {
            double answer = act(name, a);
            remember(before);
            return answer;
        } catch (RuntimeException e) {
            world = before;
            throw e;
        }
    }

    private void remember(World before) {
        past.addLast(before);
        if (past.size() > 6) {
            past.removeFirst();
        }
    }

    private double undo() {
        element(!past.isEmpty());
        world = past.removeLast();
        return past.size();
    }

    private int append(int code) {
        argument(code >= 32 && code <= 126);
        state(input.length() < 60);
        input += (char) code;
        return input.length();
    }

    private double read() {
        String text = input;
        input = "";
        if (!TEXT.matcher(text).matches()) {
            errorPosition = 0;
            while (errorPosition < text.length() && canStart(text.substring(0, errorPosition + 1))) {
                errorPosition++;
            }
            throw new IllegalArgumentException();
        }
        World before = world.copy();
        String[] commands = text.split(";");
        for (String command : commands) {
            try {
                act(command);
            } catch (RuntimeException e) {
                world = before;
                throw new IllegalStateException();
            }
        }
        remember(before);
        return commands.length;
    }

    private static boolean canStart(String part) {
        Matcher matcher = TEXT.matcher(part);
        return matcher.matches() || matcher.hitEnd();
    }

    private void act(String command) {
        String[] forms = {"s#x#", "r#x#", "w#x#!#", "h#:#", "l#:#", "e#:#>#", "m#@#"};
        String[] names = {"sell", "refund", "request", "hold", "release", "exchange", "move"};
        for (int k = 0; k < forms.length; k++) {
            Matcher matcher = Pattern.compile(forms[k].replace("#", NUMBER)).matcher(command);
            if (matcher.matches()) {
                int[] a = new int[matcher.groupCount()];
                for (int j = 0; j < a.length; j++) {
                    a[j] = Integer.parseInt(matcher.group(j + 1));
                }
                act(names[k], a);
                return;
            }
        }
        throw new AssertionError(command);
    }

    private double act(String name, int[] a) {
        switch (name) {
            case "setSeats": return setSeats(a[0], a[1]);
            case "setStaff": {
                argument(a[0] >= 1 && a[0] <= 20);
                int previous = world.staff;
                world.staff = a[0];
                accept();
                return previous;
            }
            case "setRoom": {
                argument(a[0] >= 0 && a[0] <= 99);
                int previous = world.room;
                world.room = a[0];
                accept();
                return previous;
            }
            case "addProduction": return addProduction(a);
            case "perform": return perform(a[0], a[1], a[2]);
            case "cancel": {
                int sold = performance(a[0]).sold;
                world.performances.remove(a[0]);
                accept();
                return sold;
            }
            case "move": return move(a[0], a[1]);
            case "sell": {
                Performance performance = performance(a[0]);
                argument(a[1] >= 1 && a[1] <= 99);
                refuseIf(world.free(performance) < a[1], 4, world.free(performance));
                performance.sold += a[1];
                return world.free(performance);
            }
            case "refund": {
                Performance performance = performance(a[0]);
                argument(a[1] >= 1 && a[1] <= 99);
                refuseIf(performance.sold < a[1], 7, performance.sold);
                performance.sold -= a[1];
                world.serve(performance);
                return performance.sold;
            }
            case "request": return request(a[0], a[1], a[2]);
            case "subscribe": {
                argument(a[0] >= 1 && a[0] <= 6);
                state(world.subscriptions.size() < 10);
                Subscription made = new Subscription();
                made.seats = a[0];
                world.subscriptions.add(made);
                return world.subscriptions.size() - 1;
            }
            case "hold": {
                Subscription subscription = subscription(a[0]);
                Performance performance = performance(a[1]);
                refuseIf(world.free(performance) < subscription.seats, 4, world.free(performance));
                refuseIf(!performance.holders.add(a[0]), 5, a[1]);
                return world.heldAt(a[0]);
            }
            case "release": {
                subscription(a[0]);
                Performance performance = performance(a[1]);
                refuseIf(!performance.holders.remove(a[0]), 5, a[1]);
                world.serve(performance);
                return world.heldAt(a[0]);
            }
            case "exchange": return exchange(a[0], a[1], a[2]);
            default: throw new AssertionError(name);
        }
    }

    private int setSeats(int stage, int seats) {
        index(stage >= 0 && stage < 3);
        argument(seats >= 10 && seats <= 99);
        int previous = world.stages[stage];
        world.stages[stage] = seats;
        for (int k = 0; k < world.performances.size(); k++) {
            refuseIf(world.free(world.performances.get(k)) < 0, 9, k);
        }
        for (Performance each : world.performances) {
            if (each.stage == stage) {
                world.serve(each);
            }
        }
        return previous;
    }

    private int addProduction(int[] a) {
        argument(a[0] >= 1 && a[0] <= 9 && a[1] >= 1 && a[1] <= 6);
        argument(a[2] >= 1 && a[2] <= 50 && a[3] >= 0 && a[3] <= 100);
        state(world.productions.size() < 8);
        Production made = new Production();
        made.size = a[0];
        made.crew = a[1];
        made.price = a[2];
        made.share = a[3];
        world.productions.add(made);
        return world.productions.size() - 1;
    }

    private int perform(int production, int stage, int date) {
        index(production >= 0 && production < world.productions.size() && stage >= 0 && stage < 3);
        argument(date >= 0 && date < 30);
        state(world.performances.size() < 24);
        int[] fault = place(world, -1, production, stage, date);
        refuseIf(fault != null, fault == null ? 0 : fault[0], fault == null ? 0 : fault[1]);
        return world.performances.size() - 1;
    }

    private int move(int number, int date) {
        Performance performance = performance(number);
        argument(date >= 0 && date < 30);
        int previous = performance.date;
        int[] fault = place(world, number, performance.production, performance.stage, date);
        refuseIf(fault != null, fault == null ? 0 : fault[0], fault == null ? 0 : fault[1]);
        return previous;
    }

    /** Puts a performance, a new one if moved is -1, on the date in that world; tells what is wrong then. */
    private static int[] place(World in, int moved, int production, int stage, int date) {
        for (int k = 0; k < in.performances.size(); k++) {
            Performance each = in.performances.get(k);
            if (k != moved && each.date == date && (each.stage == stage || each.production == production)) {
                return new int[] {1, k};
            }
        }
        Performance placed = moved < 0 ? new Performance() : in.performances.get(moved);
        if (moved < 0) {
            in.performances.add(placed);
        }
        placed.production = production;
        placed.stage = stage;
        placed.date = date;
        return in.fault();
    }

    private int request(int number, int seats, int priority) {
        Performance performance = performance(number);
        argument(seats >= 1 && seats <= 99 && priority >= 0 && priority <= 9);
        refuseIf(requests() >= 20, 8, 20);
        Request made = new Request();
        made.seats = seats;
        made.priority = priority;
        performance.requests.add(made);
        performance.requests.sort(Comparator.comparingInt((Request each) -> -each.priority));
        return performance.requests.indexOf(made);
    }

    private int exchange(int number, int from, int to) {
        Subscription subscription = subscription(number);
        Performance left = performance(from);
        Performance other = performance(to);
        refuseIf(!left.holders.contains(number), 5, from);
        refuseIf(other.holders.contains(number), 5, to);
        refuseIf(subscription.exchanges == 2, 6, 2);
        refuseIf(world.free(other) < subscription.seats, 4, world.free(other));
        left.holders.remove(number);
        other.holders.add(number);
        subscription.exchanges++;
        world.serve(left);
        return subscription.exchanges;
    }

    private double ask(String name, int[] a) {
        switch (name) {
            case "production": return production(a[0], a[1]);
            case "performance": return performance(a[0], a[1]);
            case "subscription": return subscription(a[0], a[1]);
            case "account": return account(a[0]);
            case "on": {
                index(a[0] >= 0 && a[0] < 3);
                argument(a[1] >= 0 && a[1] < 30);
                for (int k = 0; k < world.performances.size(); k++) {
                    Performance each = world.performances.get(k);
                    if (each.stage == a[0] && each.date == a[1]) {
                        return k;
                    }
                }
                throw new NoSuchElementException();
            }
            case "nextDate": {
                index(a[0] >= 0 && a[0] < world.productions.size() && a[1] >= 0 && a[1] < 3);
                argument(a[2] >= 0 && a[2] < 30);
                int date = a[2];
                while (date < 30 && place(world.copy(), -1, a[0], a[1], date) != null) {
                    date++;
                }
                element(date < 30);
                return date;
            }
            case "bestMove": return bestMove(a[0]);
            case "load":
                argument(a[0] >= 0 && a[0] < 30);
                return world.load(a[0]);
            case "peak": return world.peak();
            case "waiting": {
                List<Request> requests = performance(a[0]).requests;
                element(a[1] >= 0 && a[1] < requests.size());
                return a[2] == 1 ? requests.get(a[1]).priority : requests.get(a[1]).seats;
            }
            case "seats": case "seatsAgain": {
                argument(a[0] >= 0 && a[0] < 30 && a[1] >= 0 && a[1] < 3);
                return seats(a[0], a[1]);
            }
            case "partner": {
                index(a[0] >= 0 && a[0] < world.productions.size());
                float share = world.productions.get(a[0]).share;
                return world.takings(a[0]) * share / 100.0f;
            }
            case "fullness": return fullness(a[0]);
            case "reason":
                element(reason >= 0);
                return a[0] == 1 ? detail : reason;
            case "errorPosition":
                element(errorPosition >= 0);
                return errorPosition;
            default: throw new AssertionError(name);
        }
    }

    private int production(int number, int what) {
        index(number >= 0 && number < world.productions.size());
        argument(what >= 0 && what <= 7);
        Production production = world.productions.get(number);
        TreeSet<Integer> dates = world.dates(number);
        int first = dates.isEmpty() ? -1 : dates.first();
        int last = dates.isEmpty() ? -1 : dates.last();
        int[] all = {production.size, production.crew, production.price, production.share, dates.size(), first,
            last, world.takings(number)};
        return all[what];
    }

    private int performance(int number, int what) {
        Performance each = performance(number);
        argument(what >= 0 && what <= 7);
        int set = 0;
        for (int k : each.holders) {
            set += 1 << k;
        }
        int[] all = {each.production, each.stage, each.date, each.sold, world.held(each), world.free(each),
            each.requests.size(), set};
        return all[what];
    }

    private int subscription(int number, int what) {
        Subscription each = subscription(number);
        argument(what >= 0 && what <= 3);
        int set = 0;
        for (int k = 0; k < world.performances.size(); k++) {
            set += world.performances.get(k).holders.contains(number) ? 1 << k : 0;
        }
        int[] all = {each.seats, world.heldAt(number), each.exchanges, set};
        return all[what];
    }

    private int bestMove(int number) {
        Performance performance = performance(number);
        int best = -1;
        int least = Integer.MAX_VALUE;
        for (int date = 29; date >= 0; date--) {
            World trial = world.copy();
            if (date != performance.date
                    && place(trial, number, performance.production, performance.stage, date) == null
                    && trial.peak() <= least) {
                best = date;
                least = trial.peak();
            }
        }
        element(best >= 0);
        return best;
    }

    private double fullness(int production) {
        index(production >= 0 && production < world.productions.size());
        int taken = 0;
        int all = 0;
        for (Performance each : world.performances) {
            if (each.production == production) {
                taken += each.sold + world.held(each);
                all += world.stages[each.stage];
            }
        }
        if (all == 0) {
            throw new ArithmeticException();
        }
        return taken / (double) all;
    }

    /** Of a date, or with -1 of all dates. */
    private int seats(int date, int what) {
        int sum = 0;
        for (Performance each : world.performances) {
            if (each.date == date || date < 0) {
                sum += what == 0 ? each.sold : what == 1 ? world.held(each) : world.free(each);
            }
        }
        return sum;
    }

    private int requests() {
        int sum = 0;
        for (Performance each : world.performances) {
            sum += each.requests.size();
        }
        return sum;
    }

    private int account(int account) {
        argument(account >= 0 && account <= 14);
        int takings = 0;
        for (int k = 0; k < world.productions.size(); k++) {
            takings += world.takings(k);
        }
        int[] all = {world.productions.size(), world.performances.size(), world.subscriptions.size(), requests(),
            seats(-1, 0), seats(-1, 1), seats(-1, 2), world.staff, world.room, takings, world.stages[0],
            world.stages[1], world.stages[2], input.length(), past.size()};
        return all[account];
    }

    private Performance performance(int number) {
        index(number >= 0 && number < world.performances.size());
        return world.performances.get(number);
    }

    private Subscription subscription(int number) {
        index(number >= 0 && number < world.subscriptions.size());
        return world.subscriptions.get(number);
    }

    private void accept() {
        int[] fault = world.fault();
        refuseIf(fault != null, fault == null ? 0 : fault[0], fault == null ? 0 : fault[1]);
    }

    private void refuseIf(boolean isRefused, int why, int detailThen) {
        if (isRefused) {
            reason = why;
            detail = detailThen;
            throw new UnsupportedOperationException();
        }
    }

    private static void index(boolean holds) {
        if (!holds) {
            throw new IndexOutOfBoundsException();
        }
    }

    private static void argument(boolean holds) {
        if (!holds) {
            throw new IllegalArgumentException();
        }
    }

    private static void state(boolean holds) {
        if (!holds) {
            throw new IllegalStateException();
        }
    }

    private static void element(boolean holds) {
        if (!holds) {
            throw new NoSuchElementException();
        }
    }
}
