import java.util.NoSuchElementException;

/**
 * A planner for the season of a theatre. One object holds one season, the last changes of it, one
 * saved season and the input of commands. README.md tells how to use it.
 */
public final class TheatreSeasons {
    private static final int STAGES = 3;
    private static final int DATES = 30;
    private static final int MOST_PRODUCTIONS = 8;
    private static final int MOST_PERFORMANCES = 24;
    private static final int MOST_SUBSCRIPTIONS = 10;
    private static final int MOST_REQUESTS = 20;
    private static final int MOST_EXCHANGES = 2;
    private static final int MOST_CHANGES = 6;
    private static final int MOST_SIGNS = 60;
    private static final int MOST_SEATS = 99;

    /** Stands where there is no production, performance, date, request or position. */
    private static final int NONE = -1;

    // An action of a season answers 0 or more when it was done, and one of these when nothing was
    // changed; so read() can look at a failure without catching anything.
    private static final int NO_SUCH = -1;
    private static final int OUT_OF_RANGE = -2;
    private static final int FULL = -3;

    // A refusal is one number below all of those: the reason times this, and the detail, negated.
    private static final int REFUSAL = 1000;
    private static final int NOT_REFUSED = 0;

    private static final int STAGE_OR_PRODUCTION_TAKEN = 1;
    private static final int STAFF_MISSING = 2;
    private static final int ROOM_MISSING = 3;
    private static final int SEATS_MISSING = 4;
    private static final int HOLDING_WRONG = 5;
    private static final int EXCHANGES_USED = 6;
    private static final int SALES_MISSING = 7;
    private static final int REQUESTS_USED = 8;
    private static final int SEATS_IN_USE = 9;

    private static final int SOLD = 0;
    private static final int HELD = 1;
    private static final int FREE = 2;

    private final Season season = new Season();
    private final Season saved = new Season();
    private final History history = new History();
    private final Input input = new Input();
    private boolean isSaved;
    private int keptReason = NONE;
    private int keptDetail = NONE;
    private int keptPosition = NONE;

    /** Creates a season without productions and subscriptions. */
    public TheatreSeasons() {
    }

    // ---- stages, staff, room

    public int setSeats(int stage, int seats)
            throws IndexOutOfBoundsException, IllegalArgumentException, UnsupportedOperationException {
        history.open(season);
        return closeChange(season.changeSeats(stage, seats));
    }

    public int setStaff(int staff) throws IllegalArgumentException, UnsupportedOperationException {
        history.open(season);
        return closeChange(season.changeStaff(staff));
    }

    public int setRoom(int room) throws IllegalArgumentException, UnsupportedOperationException {
        history.open(season);
        return closeChange(season.changeRoom(room));
    }

    // ---- productions and performances

    public int addProduction(int size, int crew, int price, int share)
            throws IllegalArgumentException, IllegalStateException {
        history.open(season);
        return closeChange(season.makeProduction(size, crew, price, share));
    }

    public int production(int production, int what)
            throws IndexOutOfBoundsException, IllegalArgumentException {
        checkIndex(season.productions.has(production));
        Productions productions = season.productions;
        int dates = productions.dates.get(production);
        switch (what) {
            case 0: return productions.sizes.get(production);
            case 1: return productions.crews.get(production);
            case 2: return productions.prices.get(production);
            case 3: return productions.shares.get(production);
            case 4: return Integer.bitCount(dates);
            case 5: return firstDate(dates);
            case 6: return lastDate(dates);
            case 7: return season.takingsOf(production);
            default: throw new IllegalArgumentException("what is not 0 to 7");
        }
    }

    public int perform(int production, int stage, int date)
            throws IndexOutOfBoundsException, IllegalArgumentException, IllegalStateException,
            UnsupportedOperationException {
        history.open(season);
        return closeChange(season.makePerformance(production, stage, date));
    }

    public int cancel(int performance)
            throws IndexOutOfBoundsException, UnsupportedOperationException {
        history.open(season);
        return closeChange(season.dropPerformance(performance));
    }

    public int move(int performance, int date)
            throws IndexOutOfBoundsException, IllegalArgumentException, UnsupportedOperationException {
        history.open(season);
        return closeChange(season.movePerformance(performance, date));
    }

    public int performance(int performance, int what)
            throws IndexOutOfBoundsException, IllegalArgumentException {
        checkIndex(season.performances.has(performance));
        Performances performances = season.performances;
        switch (what) {
            case 0: return performances.productions.get(performance);
            case 1: return performances.stages.get(performance);
            case 2: return performances.dates.get(performance);
            case 3: return season.seatsAt(performance, SOLD);
            case 4: return season.seatsAt(performance, HELD);
            case 5: return season.seatsAt(performance, FREE);
            case 6: return season.requests.countFor(performance);
            case 7: return performances.holders.get(performance);
            default: throw new IllegalArgumentException("what is not 0 to 7");
        }
    }

    public int on(int stage, int date)
            throws IndexOutOfBoundsException, IllegalArgumentException, NoSuchElementException {
        checkIndex(isStage(stage));
        checkArgument(isDate(date));
        int performance = season.performances.find(stage, date);
        if (performance == NONE) {
            throw new NoSuchElementException("no performance on this stage on this date");
        }
        return performance;
    }

    public int nextDate(int production, int stage, int from)
            throws IndexOutOfBoundsException, IllegalArgumentException, NoSuchElementException {
        checkIndex(season.productions.has(production) && isStage(stage));
        checkArgument(isDate(from));
        for (int date = from; date < DATES; date++) {
            if (season.placingRefusal(NONE, production, stage, date) == NOT_REFUSED) {
                return date;
            }
        }
        throw new NoSuchElementException("no such date from this one on");
    }

    public int bestMove(int performance) throws IndexOutOfBoundsException, NoSuchElementException {
        checkIndex(season.performances.has(performance));
        int date = season.dateOfLeastPeak(performance);
        if (date == NONE) {
            throw new NoSuchElementException("it can be moved to no other date");
        }
        return date;
    }

    public int load(int date) throws IllegalArgumentException {
        checkArgument(isDate(date));
        return season.productions.loadIf(date, NONE, 0);
    }

    public int peak() {
        return season.productions.peakIf(NONE, 0);
    }

    // ---- seats

    public int sell(int performance, int seats)
            throws IndexOutOfBoundsException, IllegalArgumentException, UnsupportedOperationException {
        history.open(season);
        return closeChange(season.sellSeats(performance, seats));
    }

    public int refund(int performance, int seats)
            throws IndexOutOfBoundsException, IllegalArgumentException, UnsupportedOperationException {
        history.open(season);
        return closeChange(season.refundSeats(performance, seats));
    }

    public int request(int performance, int seats, int priority)
            throws IndexOutOfBoundsException, IllegalArgumentException, UnsupportedOperationException {
        history.open(season);
        return closeChange(season.makeRequest(performance, seats, priority));
    }

    public int waiting(int performance, int place, boolean isPriority)
            throws IndexOutOfBoundsException, NoSuchElementException {
        checkIndex(season.performances.has(performance));
        int request = season.requests.find(performance, place);
        if (request == NONE) {
            throw new NoSuchElementException("no request has this place");
        }
        return isPriority ? season.requests.priorities.get(request) : season.requests.seats.get(request);
    }

    public int seats(int date, int what) throws IllegalArgumentException {
        checkArgument(isDate(date) && isSeatKind(what));
        int sum = 0;
        for (int performance = 0; performance < season.performances.count; performance++) {
            if (season.performances.dates.get(performance) == date) {
                sum += season.seatsAt(performance, what);
            }
        }
        return sum;
    }

    public int seatsAgain(int date, int what) throws IllegalArgumentException {
        checkArgument(isDate(date) && isSeatKind(what));
        int sum = 0;
        for (int stage = 0; stage < STAGES; stage++) {
            sum += season.seatsOnStage(stage, date, what);
        }
        return sum;
    }

    // ---- subscriptions

    public int subscribe(int seats) throws IllegalArgumentException, IllegalStateException {
        history.open(season);
        return closeChange(season.makeSubscription(seats));
    }

    public int hold(int subscription, int performance)
            throws IndexOutOfBoundsException, UnsupportedOperationException {
        history.open(season);
        return closeChange(season.holdSeats(subscription, performance));
    }

    public int release(int subscription, int performance)
            throws IndexOutOfBoundsException, UnsupportedOperationException {
        history.open(season);
        return closeChange(season.releaseSeats(subscription, performance));
    }

    public int exchange(int subscription, int from, int to)
            throws IndexOutOfBoundsException, UnsupportedOperationException {
        history.open(season);
        return closeChange(season.exchangeSeats(subscription, from, to));
    }

    public int subscription(int subscription, int what)
            throws IndexOutOfBoundsException, IllegalArgumentException {
        checkIndex(season.subscriptions.has(subscription));
        int held = season.performances.heldFor(subscription);
        switch (what) {
            case 0: return season.subscriptions.seats.get(subscription);
            case 1: return Integer.bitCount(held);
            case 2: return season.subscriptions.exchanges.get(subscription);
            case 3: return held;
            default: throw new IllegalArgumentException("what is not 0 to 3");
        }
    }

    // ---- money, reasons, accounts, history and saving

    public float partner(int production) throws IndexOutOfBoundsException {
        checkIndex(season.productions.has(production));
        int share = season.productions.shares.get(production);
        return (float) season.takingsOf(production) * (float) share / 100.0f;
    }

    public double fullness(int production) throws IndexOutOfBoundsException, ArithmeticException {
        checkIndex(season.productions.has(production));
        int all = season.seatsOfProduction(production, true);
        if (all <= 0) {
            throw new ArithmeticException("the production has no performances");
        }
        return (double) season.seatsOfProduction(production, false) / (double) all;
    }

    public int reason(boolean isDetail) throws NoSuchElementException {
        if (keptReason == NONE) {
            throw new NoSuchElementException("no reason was kept");
        }
        return isDetail ? keptDetail : keptReason;
    }

    public int account(int account) throws IllegalArgumentException {
        switch (account) {
            case 0: return season.productions.count;
            case 1: return season.performances.count;
            case 2: return season.subscriptions.count;
            case 3: return season.requests.count;
            case 4: return season.seatsOfAll(SOLD);
            case 5: return season.seatsOfAll(HELD);
            case 6: return season.seatsOfAll(FREE);
            case 7: return season.staff;
            case 8: return season.room;
            case 9: return season.takingsOfAll();
            case 10: return season.stageSeats.get(0);
            case 11: return season.stageSeats.get(1);
            case 12: return season.stageSeats.get(2);
            case 13: return input.length;
            case 14: return history.count;
            default: throw new IllegalArgumentException("account is not 0 to 14");
        }
    }

    public int append(char character) throws IllegalArgumentException, IllegalStateException {
        checkArgument(isWithin(character, 32, 126));
        if (!input.add(character)) {
            throw new IllegalStateException("the input is full");
        }
        return input.length;
    }

    public int read() throws IllegalArgumentException, IllegalStateException {
        int fault = input.findFault();
        if (fault != NONE) {
            keptPosition = fault;
            input.clear();
            throw new IllegalArgumentException("the input is malformed");
        }
        history.open(season);
        int answer = runCommands();
        input.clear();
        if (answer < 0) {
            history.takeBack(season);
            keepRefusal(answer);
            throw new IllegalStateException("a command cannot be done");
        }
        history.close();
        return answer;
    }

    public int errorPosition() throws NoSuchElementException {
        if (keptPosition == NONE) {
            throw new NoSuchElementException("no error position was kept");
        }
        return keptPosition;
    }

    public int undo() throws NoSuchElementException {
        if (history.count <= 0) {
            throw new NoSuchElementException("no change is remembered");
        }
        history.stepBack(season);
        return history.count;
    }

    public int save() {
        saved.copyFrom(season);
        isSaved = true;
        return season.performances.count;
    }

    public int restore() throws IllegalStateException {
        if (!isSaved) {
            throw new IllegalStateException("nothing was saved");
        }
        season.copyFrom(saved);
        history.forget();
        return season.performances.count;
    }

    // ---- how the calls end

    private int closeChange(int answer) {
        if (answer >= 0) {
            history.close();
            return answer;
        }
        checkIndex(answer != NO_SUCH);
        checkArgument(answer != OUT_OF_RANGE);
        if (answer == FULL) {
            throw new IllegalStateException("there is no place for one more");
        }
        keepRefusal(answer);
        throw new UnsupportedOperationException("refused; reason() tells why");
    }

    private void keepRefusal(int answer) {
        if (answer <= -REFUSAL) {
            keptReason = -answer / REFUSAL;
            keptDetail = -answer % REFUSAL;
        }
    }

    private static void checkIndex(boolean isThere) {
        if (!isThere) {
            throw new IndexOutOfBoundsException("no such number");
        }
    }

    private static void checkArgument(boolean isFit) {
        if (!isFit) {
            throw new IllegalArgumentException("out of range");
        }
    }

    private int runCommands() {
        input.goToStart();
        int commands = 0;
        while (commands < MOST_SIGNS && input.takeNext()) {
            int answer = runCommand(input.letter, input.numbers);
            if (answer < 0) {
                return answer;
            }
            commands++;
        }
        return commands;
    }

    private int runCommand(char letter, Row numbers) {
        int first = numbers.get(0);
        int second = numbers.get(1);
        int third = numbers.get(2);
        switch (letter) {
            case 's': return season.sellSeats(first, second);
            case 'r': return season.refundSeats(first, second);
            case 'w': return season.makeRequest(first, second, third);
            case 'h': return season.holdSeats(first, second);
            case 'l': return season.releaseSeats(first, second);
            case 'e': return season.exchangeSeats(first, second, third);
            default: return season.movePerformance(first, second);
        }
    }

    // ---- what the classes inside share

    private static boolean isWithin(int number, int least, int most) {
        return number >= least && number <= most;
    }

    private static boolean isStage(int stage) {
        return isWithin(stage, 0, STAGES - 1);
    }

    private static boolean isDate(int date) {
        return isWithin(date, 0, DATES - 1);
    }

    private static boolean isSeatKind(int what) {
        return isWithin(what, SOLD, FREE);
    }

    private static int refusal(int reason, int detail) {
        return -(reason * REFUSAL + detail);
    }

    private static boolean isInSet(int set, int member) {
        return (set >> member & 1) != 0;
    }

    private static int firstDate(int dates) {
        for (int date = 0; date < DATES; date++) {
            if (isInSet(dates, date)) {
                return date;
            }
        }
        return NONE;
    }

    private static int lastDate(int dates) {
        for (int date = DATES - 1; date >= 0; date--) {
            if (isInSet(dates, date)) {
                return date;
            }
        }
        return NONE;
    }

    /** A row of numbers. All indices are tested here, so that no other class need fear one. */
    private static final class Row {
        private final int[] cells;

        Row(int length) {
            cells = new int[length < 0 ? 0 : length];
        }

        int get(int index) {
            return index >= 0 && index < cells.length ? cells[index] : 0;
        }

        void set(int index, int number) {
            if (index >= 0 && index < cells.length) {
                cells[index] = number;
            }
        }

        void add(int index, int number) {
            set(index, get(index) + number);
        }

        void insertAt(int index, int number) {
            for (int later = cells.length - 1; later > index; later--) {
                set(later, get(later - 1));
            }
            set(index, number);
        }

        void removeAt(int index) {
            for (int cell = index; cell < cells.length; cell++) {
                set(cell, get(cell + 1));
            }
        }

        void copyFrom(Row other) {
            System.arraycopy(other.cells, 0, cells, 0, Math.min(cells.length, other.cells.length));
        }
    }

    /** The productions, each with the dates of its performances as a set, bit k for date k. */
    private static final class Productions {
        private int count;
        private final Row sizes = new Row(MOST_PRODUCTIONS);
        private final Row crews = new Row(MOST_PRODUCTIONS);
        private final Row prices = new Row(MOST_PRODUCTIONS);
        private final Row shares = new Row(MOST_PRODUCTIONS);
        private final Row dates = new Row(MOST_PRODUCTIONS);

        boolean has(int production) {
            return isWithin(production, 0, count - 1);
        }

        int add(int size, int crew, int price, int share) {
            int production = count;
            sizes.set(production, size);
            crews.set(production, crew);
            prices.set(production, price);
            shares.set(production, share);
            dates.set(production, 0);
            count++;
            return production;
        }

        // The questions that end in If are answered as if the dates of the changed production
        // were other ones; with NONE as the changed production, as things are.

        private static boolean isStored(int played, int date) {
            boolean isBegun = (played & ((1 << date) - 1)) != 0;
            boolean isUnended = played >> date != 0;
            boolean isPlayed = (played >> date & 1) != 0;
            return isBegun && isUnended && !isPlayed;
        }

        int loadIf(int date, int changed, int changedDates) {
            int sum = 0;
            for (int production = 0; production < count; production++) {
                int played = production == changed ? changedDates : dates.get(production);
                if (isStored(played, date)) {
                    sum += sizes.get(production);
                }
            }
            return sum;
        }

        int peakIf(int changed, int changedDates) {
            int greatest = 0;
            for (int date = 0; date < DATES; date++) {
                greatest = Math.max(greatest, loadIf(date, changed, changedDates));
            }
            return greatest;
        }

        private int crewIf(int date, int changed, int changedDates) {
            int sum = 0;
            for (int production = 0; production < count; production++) {
                int played = production == changed ? changedDates : dates.get(production);
                if (isInSet(played, date)) {
                    sum += crews.get(production);
                }
            }
            return sum;
        }

        int staffRefusalIf(int staff, int changed, int changedDates) {
            for (int date = 0; date < DATES; date++) {
                int missing = crewIf(date, changed, changedDates) - staff;
                if (missing > 0) {
                    return refusal(STAFF_MISSING, missing);
                }
            }
            return NOT_REFUSED;
        }

        int roomRefusalIf(int room, int changed, int changedDates) {
            for (int date = 0; date < DATES; date++) {
                if (loadIf(date, changed, changedDates) > room) {
                    return refusal(ROOM_MISSING, date);
                }
            }
            return NOT_REFUSED;
        }

        void copyFrom(Productions other) {
            count = other.count;
            sizes.copyFrom(other.sizes);
            crews.copyFrom(other.crews);
            prices.copyFrom(other.prices);
            shares.copyFrom(other.shares);
            dates.copyFrom(other.dates);
        }
    }

    /** The performances, each with the subscriptions that hold seats as a set, bit k for subscription k. */
    private static final class Performances {
        private int count;
        private final Row productions = new Row(MOST_PERFORMANCES);
        private final Row stages = new Row(MOST_PERFORMANCES);
        private final Row dates = new Row(MOST_PERFORMANCES);
        private final Row sold = new Row(MOST_PERFORMANCES);
        private final Row held = new Row(MOST_PERFORMANCES);
        private final Row holders = new Row(MOST_PERFORMANCES);

        boolean has(int performance) {
            return isWithin(performance, 0, count - 1);
        }

        int add(int production, int stage, int date) {
            int performance = count;
            productions.set(performance, production);
            stages.set(performance, stage);
            dates.set(performance, date);
            sold.set(performance, 0);
            held.set(performance, 0);
            holders.set(performance, 0);
            count++;
            return performance;
        }

        void removeAt(int performance) {
            productions.removeAt(performance);
            stages.removeAt(performance);
            dates.removeAt(performance);
            sold.removeAt(performance);
            held.removeAt(performance);
            holders.removeAt(performance);
            count--;
        }

        int find(int stage, int date) {
            for (int performance = 0; performance < count; performance++) {
                if (stages.get(performance) == stage && dates.get(performance) == date) {
                    return performance;
                }
            }
            return NONE;
        }

        int findOther(int moved, int production, int stage, int date) {
            for (int performance = 0; performance < count; performance++) {
                boolean isTaken = stages.get(performance) == stage
                        || productions.get(performance) == production;
                if (performance != moved && isTaken && dates.get(performance) == date) {
                    return performance;
                }
            }
            return NONE;
        }

        int taken(int performance) {
            return sold.get(performance) + held.get(performance);
        }

        boolean isHeldBy(int subscription, int performance) {
            return isInSet(holders.get(performance), subscription);
        }

        int heldFor(int subscription) {
            int set = 0;
            for (int performance = 0; performance < count; performance++) {
                if (isHeldBy(subscription, performance)) {
                    set |= 1 << performance;
                }
            }
            return set;
        }

        void beginHolding(int subscription, int performance, int seats) {
            holders.set(performance, holders.get(performance) | 1 << subscription);
            held.add(performance, seats);
        }

        void endHolding(int subscription, int performance, int seats) {
            holders.set(performance, holders.get(performance) & ~(1 << subscription));
            held.add(performance, -seats);
        }

        void copyFrom(Performances other) {
            count = other.count;
            productions.copyFrom(other.productions);
            stages.copyFrom(other.stages);
            dates.copyFrom(other.dates);
            sold.copyFrom(other.sold);
            held.copyFrom(other.held);
            holders.copyFrom(other.holders);
        }
    }

    /** The subscriptions. */
    private static final class Subscriptions {
        private int count;
        private final Row seats = new Row(MOST_SUBSCRIPTIONS);
        private final Row exchanges = new Row(MOST_SUBSCRIPTIONS);

        boolean has(int subscription) {
            return isWithin(subscription, 0, count - 1);
        }

        int add(int number) {
            int subscription = count;
            seats.set(subscription, number);
            exchanges.set(subscription, 0);
            count++;
            return subscription;
        }

        void copyFrom(Subscriptions other) {
            count = other.count;
            seats.copyFrom(other.seats);
            exchanges.copyFrom(other.exchanges);
        }
    }

    /** All requests that wait; those for one performance stand in the order in which they are served. */
    private static final class Requests {
        private int count;
        private final Row performances = new Row(MOST_REQUESTS);
        private final Row seats = new Row(MOST_REQUESTS);
        private final Row priorities = new Row(MOST_REQUESTS);

        int countFor(int performance) {
            int found = 0;
            for (int request = 0; request < count; request++) {
                if (performances.get(request) == performance) {
                    found++;
                }
            }
            return found;
        }

        int find(int performance, int place) {
            int passed = 0;
            for (int request = 0; request < count; request++) {
                if (performances.get(request) == performance) {
                    if (passed == place) {
                        return request;
                    }
                    passed++;
                }
            }
            return NONE;
        }

        /** Answers the place among the requests for the performance. */
        int add(int performance, int number, int priority) {
            int place = 0;
            int request = 0;
            for (; request < count; request++) {
                if (performances.get(request) == performance) {
                    if (priorities.get(request) < priority) {
                        break;
                    }
                    place++;
                }
            }
            performances.insertAt(request, performance);
            seats.insertAt(request, number);
            priorities.insertAt(request, priority);
            count++;
            return place;
        }

        void removeAt(int request) {
            performances.removeAt(request);
            seats.removeAt(request);
            priorities.removeAt(request);
            count--;
        }

        /** Drops the requests for a performance that goes, and renumbers those for later ones. */
        void dropPerformance(int performance) {
            for (int request = count - 1; request >= 0; request--) {
                int wanted = performances.get(request);
                if (wanted == performance) {
                    removeAt(request);
                } else if (wanted > performance) {
                    performances.set(request, wanted - 1);
                }
            }
        }

        void copyFrom(Requests other) {
            count = other.count;
            performances.copyFrom(other.performances);
            seats.copyFrom(other.seats);
            priorities.copyFrom(other.priorities);
        }
    }

    /** All that the history remembers, and the actions on it; see NO_SUCH for what these answer. */
    private static final class Season {
        private final Row stageSeats = new Row(STAGES);
        private int staff = 6;
        private int room = 20;
        private final Productions productions = new Productions();
        private final Performances performances = new Performances();
        private final Subscriptions subscriptions = new Subscriptions();
        private final Requests requests = new Requests();

        Season() {
            stageSeats.set(0, 40);
            stageSeats.set(1, 60);
            stageSeats.set(2, 80);
        }

        void copyFrom(Season other) {
            stageSeats.copyFrom(other.stageSeats);
            staff = other.staff;
            room = other.room;
            productions.copyFrom(other.productions);
            performances.copyFrom(other.performances);
            subscriptions.copyFrom(other.subscriptions);
            requests.copyFrom(other.requests);
        }

        int changeSeats(int stage, int seats) {
            if (!isStage(stage)) {
                return NO_SUCH;
            }
            if (!isWithin(seats, 10, MOST_SEATS)) {
                return OUT_OF_RANGE;
            }
            for (int performance = 0; performance < performances.count; performance++) {
                if (performances.stages.get(performance) == stage && performances.taken(performance) > seats) {
                    return refusal(SEATS_IN_USE, performance);
                }
            }
            int previous = stageSeats.get(stage);
            stageSeats.set(stage, seats);
            serveStage(stage);
            return previous;
        }

        int changeStaff(int number) {
            if (!isWithin(number, 1, 20)) {
                return OUT_OF_RANGE;
            }
            int refused = productions.staffRefusalIf(number, NONE, 0);
            if (refused != NOT_REFUSED) {
                return refused;
            }
            int previous = staff;
            staff = number;
            return previous;
        }

        int changeRoom(int number) {
            if (!isWithin(number, 0, 99)) {
                return OUT_OF_RANGE;
            }
            int refused = productions.roomRefusalIf(number, NONE, 0);
            if (refused != NOT_REFUSED) {
                return refused;
            }
            int previous = room;
            room = number;
            return previous;
        }

        int makeProduction(int size, int crew, int price, int share) {
            boolean isFit = isWithin(size, 1, 9) && isWithin(crew, 1, 6) && isWithin(price, 1, 50)
                    && isWithin(share, 0, 100);
            if (!isFit) {
                return OUT_OF_RANGE;
            }
            return productions.count < MOST_PRODUCTIONS ? productions.add(size, crew, price, share) : FULL;
        }

        int makePerformance(int production, int stage, int date) {
            if (!productions.has(production) || !isStage(stage)) {
                return NO_SUCH;
            }
            if (!isDate(date)) {
                return OUT_OF_RANGE;
            }
            if (performances.count >= MOST_PERFORMANCES) {
                return FULL;
            }
            int refused = placingRefusal(NONE, production, stage, date);
            if (refused != NOT_REFUSED) {
                return refused;
            }
            productions.dates.set(production, datesWith(NONE, production, date));
            return performances.add(production, stage, date);
        }

        int dropPerformance(int performance) {
            if (!performances.has(performance)) {
                return NO_SUCH;
            }
            int production = performances.productions.get(performance);
            int left = productions.dates.get(production) & ~(1 << performances.dates.get(performance));
            int refused = productions.roomRefusalIf(room, production, left);
            if (refused != NOT_REFUSED) {
                return refused;
            }
            int sold = performances.sold.get(performance);
            productions.dates.set(production, left);
            performances.removeAt(performance);
            requests.dropPerformance(performance);
            return sold;
        }

        int movePerformance(int performance, int date) {
            if (!performances.has(performance)) {
                return NO_SUCH;
            }
            if (!isDate(date)) {
                return OUT_OF_RANGE;
            }
            int production = performances.productions.get(performance);
            int refused = placingRefusal(performance, production, performances.stages.get(performance), date);
            if (refused != NOT_REFUSED) {
                return refused;
            }
            int previous = performances.dates.get(performance);
            productions.dates.set(production, datesWith(performance, production, date));
            performances.dates.set(performance, date);
            return previous;
        }

        /** The dates of a production with one date more, and without that of the performance moved. */
        private int datesWith(int moved, int production, int date) {
            int dates = productions.dates.get(production);
            if (performances.has(moved)) {
                dates &= ~(1 << performances.dates.get(moved));
            }
            return dates | 1 << date;
        }

        /** Why a performance can't be made, with NONE as the moved one, or moved to a date. */
        int placingRefusal(int moved, int production, int stage, int date) {
            int other = performances.findOther(moved, production, stage, date);
            if (other != NONE) {
                return refusal(STAGE_OR_PRODUCTION_TAKEN, other);
            }
            int dates = datesWith(moved, production, date);
            int refused = productions.staffRefusalIf(staff, production, dates);
            if (refused != NOT_REFUSED) {
                return refused;
            }
            return productions.roomRefusalIf(room, production, dates);
        }

        int dateOfLeastPeak(int performance) {
            int production = performances.productions.get(performance);
            int stage = performances.stages.get(performance);
            int best = NONE;
            int leastPeak = 0;
            for (int date = 0; date < DATES; date++) {
                boolean isOwn = date == performances.dates.get(performance);
                if (!isOwn && placingRefusal(performance, production, stage, date) == NOT_REFUSED) {
                    int reached = productions.peakIf(production, datesWith(performance, production, date));
                    if (best == NONE || reached < leastPeak) {
                        best = date;
                        leastPeak = reached;
                    }
                }
            }
            return best;
        }

        int sellSeats(int performance, int seats) {
            if (!performances.has(performance)) {
                return NO_SUCH;
            }
            if (!isWithin(seats, 1, MOST_SEATS)) {
                return OUT_OF_RANGE;
            }
            int free = seatsAt(performance, FREE);
            if (free < seats) {
                return refusal(SEATS_MISSING, free);
            }
            performances.sold.add(performance, seats);
            return free - seats;
        }

        int refundSeats(int performance, int seats) {
            if (!performances.has(performance)) {
                return NO_SUCH;
            }
            if (!isWithin(seats, 1, MOST_SEATS)) {
                return OUT_OF_RANGE;
            }
            int sold = performances.sold.get(performance);
            if (sold < seats) {
                return refusal(SALES_MISSING, sold);
            }
            performances.sold.add(performance, -seats);
            serveRequests(performance);
            return performances.sold.get(performance);
        }

        int makeRequest(int performance, int seats, int priority) {
            if (!performances.has(performance)) {
                return NO_SUCH;
            }
            if (!isWithin(seats, 1, MOST_SEATS) || !isWithin(priority, 0, 9)) {
                return OUT_OF_RANGE;
            }
            if (requests.count >= MOST_REQUESTS) {
                return refusal(REQUESTS_USED, MOST_REQUESTS);
            }
            return requests.add(performance, seats, priority);
        }

        private void serveStage(int stage) {
            for (int performance = 0; performance < performances.count; performance++) {
                if (performances.stages.get(performance) == stage) {
                    serveRequests(performance);
                }
            }
        }

        private void serveRequests(int performance) {
            for (int served = 0; served < MOST_REQUESTS; served++) {
                int request = requests.find(performance, 0);
                if (request == NONE || requests.seats.get(request) > seatsAt(performance, FREE)) {
                    return;
                }
                performances.sold.add(performance, requests.seats.get(request));
                requests.removeAt(request);
            }
        }

        int makeSubscription(int seats) {
            if (!isWithin(seats, 1, 6)) {
                return OUT_OF_RANGE;
            }
            return subscriptions.count < MOST_SUBSCRIPTIONS ? subscriptions.add(seats) : FULL;
        }

        int holdSeats(int subscription, int performance) {
            if (!subscriptions.has(subscription) || !performances.has(performance)) {
                return NO_SUCH;
            }
            int seats = subscriptions.seats.get(subscription);
            int free = seatsAt(performance, FREE);
            if (free < seats) {
                return refusal(SEATS_MISSING, free);
            }
            if (performances.isHeldBy(subscription, performance)) {
                return refusal(HOLDING_WRONG, performance);
            }
            performances.beginHolding(subscription, performance, seats);
            return Integer.bitCount(performances.heldFor(subscription));
        }

        int releaseSeats(int subscription, int performance) {
            if (!subscriptions.has(subscription) || !performances.has(performance)) {
                return NO_SUCH;
            }
            if (!performances.isHeldBy(subscription, performance)) {
                return refusal(HOLDING_WRONG, performance);
            }
            performances.endHolding(subscription, performance, subscriptions.seats.get(subscription));
            serveRequests(performance);
            return Integer.bitCount(performances.heldFor(subscription));
        }

        int exchangeSeats(int subscription, int from, int to) {
            if (!subscriptions.has(subscription) || !performances.has(from) || !performances.has(to)) {
                return NO_SUCH;
            }
            int refused = exchangeRefusal(subscription, from, to);
            if (refused != NOT_REFUSED) {
                return refused;
            }
            int seats = subscriptions.seats.get(subscription);
            performances.endHolding(subscription, from, seats);
            performances.beginHolding(subscription, to, seats);
            subscriptions.exchanges.add(subscription, 1);
            serveRequests(from);
            return subscriptions.exchanges.get(subscription);
        }

        private int exchangeRefusal(int subscription, int from, int to) {
            if (!performances.isHeldBy(subscription, from)) {
                return refusal(HOLDING_WRONG, from);
            }
            if (performances.isHeldBy(subscription, to)) {
                return refusal(HOLDING_WRONG, to);
            }
            if (subscriptions.exchanges.get(subscription) >= MOST_EXCHANGES) {
                return refusal(EXCHANGES_USED, MOST_EXCHANGES);
            }
            int free = seatsAt(to, FREE);
            return free < subscriptions.seats.get(subscription) ? refusal(SEATS_MISSING, free) : NOT_REFUSED;
        }

        int seatsAt(int performance, int kind) {
            if (kind == SOLD) {
                return performances.sold.get(performance);
            }
            if (kind == HELD) {
                return performances.held.get(performance);
            }
            return stageSeats.get(performances.stages.get(performance)) - performances.taken(performance);
        }

        int seatsOfAll(int kind) {
            int sum = 0;
            for (int performance = 0; performance < performances.count; performance++) {
                sum += seatsAt(performance, kind);
            }
            return sum;
        }

        // The second way to count: from the stage and the subscriptions, not from the kept number
        // of held seats.
        int seatsOnStage(int stage, int date, int kind) {
            int performance = performances.find(stage, date);
            if (performance == NONE) {
                return 0;
            }
            int sold = performances.sold.get(performance);
            if (kind == SOLD) {
                return sold;
            }
            int held = 0;
            for (int subscription = 0; subscription < subscriptions.count; subscription++) {
                if (performances.isHeldBy(subscription, performance)) {
                    held += subscriptions.seats.get(subscription);
                }
            }
            return kind == HELD ? held : stageSeats.get(stage) - sold - held;
        }

        /** All seats of the performances of a production, or those of them that are sold or held. */
        int seatsOfProduction(int production, boolean isAll) {
            int sum = 0;
            for (int performance = 0; performance < performances.count; performance++) {
                if (performances.productions.get(performance) == production) {
                    int all = stageSeats.get(performances.stages.get(performance));
                    sum += isAll ? all : performances.taken(performance);
                }
            }
            return sum;
        }

        int takingsOf(int production) {
            int price = productions.prices.get(production);
            int sum = 0;
            for (int performance = 0; performance < performances.count; performance++) {
                if (performances.productions.get(performance) == production) {
                    sum += price * performances.sold.get(performance);
                    sum += price * 4 / 5 * performances.held.get(performance);
                }
            }
            return sum;
        }

        int takingsOfAll() {
            int sum = 0;
            for (int production = 0; production < productions.count; production++) {
                sum += takingsOf(production);
            }
            return sum;
        }
    }

    /**
     * The seasons as they were just before the last changes, the oldest first. Behind them stands a
     * season as it was before the change that is tried at present: only a change that succeeds may
     * push the oldest one out.
     */
    private static final class History {
        private final Season[] rows = new Season[MOST_CHANGES + 1];
        private int count;

        History() {
            for (int row = 0; row < rows.length; row++) {
                rows[row] = new Season();
            }
        }

        void open(Season present) {
            copySeason(rowAt(count), present);
        }

        void takeBack(Season present) {
            copySeason(present, rowAt(count));
        }

        void close() {
            if (count < MOST_CHANGES) {
                count++;
            } else {
                forgetOldest();
            }
        }

        void stepBack(Season present) {
            if (count > 0) {
                count--;
                copySeason(present, rowAt(count));
            }
        }

        void forget() {
            count = 0;
        }

        private void forgetOldest() {
            for (int row = 0; row + 1 < rows.length; row++) {
                Season oldest = rows[row];
                rows[row] = rows[row + 1];
                rows[row + 1] = oldest;
            }
        }

        private Season rowAt(int index) {
            return index >= 0 && index < rows.length ? rows[index] : null;
        }

        private static void copySeason(Season to, Season from) {
            if (to != null && from != null) {
                to.copyFrom(from);
            }
        }
    }

    /** The input, and a reader that goes over its commands. */
    private static final class Input {
        private final char[] signs = new char[MOST_SIGNS];
        private int length;
        private int position;
        private char letter;
        private final Row numbers = new Row(3);

        boolean add(char sign) {
            if (length < 0 || length >= signs.length) {
                return false;
            }
            signs[length] = sign;
            length++;
            return true;
        }

        void clear() {
            length = 0;
        }

        void goToStart() {
            position = 0;
        }

        /** The error position, or NONE if the input is a text. */
        int findFault() {
            goToStart();
            for (int commands = 0; commands < MOST_SIGNS; commands++) {
                if (!takeCommand()) {
                    return position;
                }
                if (position >= length) {
                    return NONE;
                }
                if (!takeSign(';')) {
                    return position;
                }
            }
            return position;
        }

        /** Takes the next command of a text, with the semicolon behind it. */
        boolean takeNext() {
            if (position >= length) {
                return false;
            }
            boolean isTaken = takeCommand();
            takeSign(';');
            return isTaken;
        }

        // Every beginning of a form can be completed, so where a command ends too early or goes on
        // wrongly, the position is the error position.
        private boolean takeCommand() {
            letter = signHere();
            String form = formOf(letter);
            if (form.isEmpty()) {
                return false;
            }
            position++;
            int taken = 0;
            for (int part = 0; part < form.length(); part++) {
                char sign = form.charAt(part);
                boolean isNumber = sign == '#' || sign == '1';
                if (isNumber ? !takeNumber(taken, sign == '#') : !takeSign(sign)) {
                    return false;
                }
                if (isNumber) {
                    taken++;
                }
            }
            return true;
        }

        /** What stands behind the letter of a command: # for a number, 1 for a digit. */
        private static String formOf(char first) {
            switch (first) {
                case 's': return "#x#";
                case 'r': return "#x#";
                case 'w': return "#x#!1";
                case 'h': return "#:#";
                case 'l': return "#:#";
                case 'e': return "#:#>#";
                case 'm': return "#@#";
                default: return "";
            }
        }

        private boolean takeNumber(int index, boolean isLong) {
            if (!isDigit(signHere())) {
                return false;
            }
            int number = signHere() - '0';
            position++;
            if (isLong && isDigit(signHere())) {
                number = number * 10 + signHere() - '0';
                position++;
            }
            numbers.set(index, number);
            return true;
        }

        private boolean takeSign(char sign) {
            if (signHere() != sign) {
                return false;
            }
            position++;
            return true;
        }

        /** The sign at the position; behind the last one 0, which no command has. */
        private char signHere() {
            boolean isInside = position >= 0 && position < length && position < signs.length;
            return isInside ? signs[position] : (char) 0;
        }

        private static boolean isDigit(char sign) {
            return sign >= '0' && sign <= '9';
        }
    }
}
