/**
 * Seats that are sold, held and waited for: each refusal at the last case that is allowed and at the
 * first one that is not, and when requests are served. A group is named by the sentence that it tests.
 */
public final class SeatTests {
    private SeatTests() {
    }

    public static void main(String[] args) {
        Checks.group("reason 4, fewer seats are free, sell", SeatTests::freeForSell);
        Checks.group("reason 4, fewer seats are free, hold", SeatTests::freeForHold);
        Checks.group("reason 4, fewer seats are free, exchange", SeatTests::freeForExchange);
        Checks.group("reason 5, hold", SeatTests::heldAlready);
        Checks.group("hold() looks at 4 ahead of 5", SeatTests::freeAheadOfHeld);
        Checks.group("reason 5, release", SeatTests::notHeld);
        Checks.group("reason 5, exchange: the performance that is left first", SeatTests::leftFirst);
        Checks.group("for an exchange 5, then 6, then 4", SeatTests::orderOfExchange);
        Checks.group("an exchange with itself", SeatTests::exchangeWithItself);
        Checks.group("reason 7, fewer seats are sold", SeatTests::soldForRefund);
        Checks.group("reason 9, more seats sold and held", SeatTests::seatsInUse);
        Checks.group("reason 9 tells the lowest such performance", SeatTests::lowestInUse);
        Checks.group("requests do not keep seats from being sold or held", SeatTests::requestsKeepNothing);
        Checks.group("a request waits, also if so many seats are free", SeatTests::requestWaits);
        Checks.group("greater priorities first, else in the order in which they came", SeatTests::orderOfRequests);
        serving();
        Checks.group("hold and release tell at how many performances it holds", SeatTests::heldPerformances);
        Checks.group("cancel drops what is sold, held and waited for", SeatTests::cancelDrops);
        Checks.group("seats and seatsAgain add up", SeatTests::addUp);
        Checks.end();
    }

    private static void serving() {
        Checks.group("served if it has at most as many seats as are free", SeatTests::servedExactly);
        Checks.group("a first request keeps those behind it waiting", SeatTests::firstKeepsBehind);
        Checks.group("as long as there is a first one", SeatTests::servedOneByOne);
        Checks.group("all 20 requests served at once", SeatTests::allServed);
        Checks.group("a refund tells how many are sold behind the serving", SeatTests::refundTellsBehind);
        Checks.group("release serves the requests of this performance", SeatTests::releaseServes);
        Checks.group("exchange serves those of the performance that is left", SeatTests::exchangeServes);
        Checks.group("setSeats serves in the order of the performances", SeatTests::setSeatsServes);
        Checks.group("setSeats serves also if the number stays", SeatTests::sameSeatsServe);
        Checks.group("setSeats to fewer seats serves too", SeatTests::fewerSeatsServe);
        Checks.group("it waits no longer, and the others stay as they were", SeatTests::othersStay);
        Checks.group("nothing else serves", SeatTests::nothingElseServes);
    }

    private static TheatreSeasons withSubscription(int seats) {
        TheatreSeasons x = Fixtures.withPerformances();
        x.subscribe(seats);
        return x;
    }

    // ---- refusals

    private static void freeForSell() {
        TheatreSeasons x = Fixtures.withPerformances();
        Checks.refused(x, 4, 40, () -> x.sell(0, 41));
        Checks.refused(x, 4, 60, () -> x.sell(1, 61));
        Checks.refused(x, 4, 80, () -> x.sell(2, 81));
        Checks.is(0, x.performance(0, 3));
        Checks.is(0, x.sell(0, 40));
        Checks.refused(x, 4, 0, () -> x.sell(0, 1));
        Checks.is(0, x.sell(1, 60));
        Checks.is(0, x.sell(2, 80));
        TheatreSeasons y = withSubscription(6);
        y.hold(0, 0);
        y.sell(0, 10);
        Checks.refused(y, 4, 24, () -> y.sell(0, 25));
        Checks.is(1, y.sell(0, 23));
        Checks.refused(y, 4, 1, () -> y.sell(0, 2));
        Checks.is(0, y.sell(0, 1));
    }

    private static void freeForHold() {
        for (int seats = 1; seats <= 6; seats++) {
            TheatreSeasons x = withSubscription(seats);
            x.sell(0, 40 - seats + 1);
            Checks.refused(x, 4, seats - 1, () -> x.hold(0, 0));
            Checks.is(0, x.performance(0, 4));
            Checks.is(0, x.subscription(0, 1));
            x.refund(0, 1);
            Checks.is(1, x.hold(0, 0));
            Checks.is(0, x.performance(0, 5));
            Checks.is(seats, x.performance(0, 4));
        }
    }

    private static void freeForExchange() {
        for (int seats = 1; seats <= 6; seats++) {
            TheatreSeasons x = withSubscription(seats);
            x.hold(0, 1);
            x.sell(0, 40 - seats + 1);
            Checks.refused(x, 4, seats - 1, () -> x.exchange(0, 1, 0));
            Checks.is(seats, x.performance(1, 4));
            Checks.is(0, x.subscription(0, 2));
            x.refund(0, 1);
            Checks.is(1, x.exchange(0, 1, 0));
            Checks.is(0, x.performance(0, 5));
            Checks.is(60, x.performance(1, 5));
        }
    }

    private static void heldAlready() {
        TheatreSeasons x = withSubscription(2);
        x.subscribe(2);
        x.hold(0, 2);
        Checks.refused(x, 5, 2, () -> x.hold(0, 2));
        Checks.is(2, x.performance(2, 4));
        Checks.is(1, x.hold(1, 2));
        Checks.is(2, x.hold(0, 0));
        Checks.refused(x, 5, 0, () -> x.hold(0, 0));
        x.release(0, 0);
        Checks.is(2, x.hold(0, 0));
    }

    private static void freeAheadOfHeld() {
        TheatreSeasons x = withSubscription(3);
        x.hold(0, 1);
        x.sell(1, 55);
        Checks.refused(x, 4, 2, () -> x.hold(0, 1));
        x.refund(1, 1);
        Checks.refused(x, 5, 1, () -> x.hold(0, 1));
        Checks.is(3, x.performance(1, 4));
    }

    private static void notHeld() {
        TheatreSeasons x = withSubscription(3);
        x.subscribe(3);
        x.hold(0, 0);
        Checks.refused(x, 5, 0, () -> x.release(1, 0));
        Checks.refused(x, 5, 2, () -> x.release(0, 2));
        Checks.is(0, x.release(0, 0));
        Checks.refused(x, 5, 0, () -> x.release(0, 0));
        Checks.is(0, x.performance(0, 4));
    }

    private static void leftFirst() {
        TheatreSeasons x = withSubscription(3);
        x.hold(0, 0);
        Checks.refused(x, 5, 1, () -> x.exchange(0, 1, 2));
        Checks.refused(x, 5, 1, () -> x.exchange(0, 1, 0));
        Checks.refused(x, 5, 2, () -> x.exchange(0, 2, 2));
        x.hold(0, 1);
        Checks.refused(x, 5, 1, () -> x.exchange(0, 0, 1));
        Checks.refused(x, 5, 0, () -> x.exchange(0, 1, 0));
        Checks.is(1, x.exchange(0, 0, 2));
        Checks.refused(x, 5, 0, () -> x.exchange(0, 0, 1));
    }

    private static void orderOfExchange() {
        TheatreSeasons x = withSubscription(3);
        x.hold(0, 0);
        x.exchange(0, 0, 1);
        x.exchange(0, 1, 0);
        x.sell(2, 80);
        Checks.refused(x, 5, 1, () -> x.exchange(0, 1, 2));
        Checks.refused(x, 6, 2, () -> x.exchange(0, 0, 2));
        x.release(0, 0);
        Checks.refused(x, 5, 0, () -> x.exchange(0, 0, 2));
        x.hold(0, 0);
        x.hold(0, 1);
        Checks.refused(x, 5, 1, () -> x.exchange(0, 0, 1));
        x.sell(1, 57);
        Checks.refused(x, 5, 1, () -> x.exchange(0, 0, 1));
        TheatreSeasons y = withSubscription(3);
        y.hold(0, 0);
        y.hold(0, 1);
        y.sell(1, 57);
        Checks.refused(y, 5, 1, () -> y.exchange(0, 0, 1));
        Checks.refused(y, 5, 2, () -> y.exchange(0, 2, 1));
        y.sell(2, 78);
        Checks.refused(y, 4, 2, () -> y.exchange(0, 0, 2));
    }

    private static void exchangeWithItself() {
        TheatreSeasons x = withSubscription(3);
        Checks.refused(x, 5, 1, () -> x.exchange(0, 1, 1));
        x.hold(0, 1);
        Checks.refused(x, 5, 1, () -> x.exchange(0, 1, 1));
        Checks.is(0, x.subscription(0, 2));
        Checks.is(3, x.performance(1, 4));
    }

    private static void soldForRefund() {
        TheatreSeasons x = withSubscription(6);
        x.hold(0, 0);
        Checks.refused(x, 7, 0, () -> x.refund(0, 1));
        x.sell(0, 1);
        Checks.refused(x, 7, 1, () -> x.refund(0, 2));
        Checks.is(0, x.refund(0, 1));
        x.sell(0, 34);
        Checks.refused(x, 7, 34, () -> x.refund(0, 35));
        Checks.refused(x, 7, 34, () -> x.refund(0, 99));
        Checks.is(34, x.performance(0, 3));
        Checks.is(0, x.refund(0, 34));
        Checks.is(6, x.performance(0, 4));
    }

    private static void seatsInUse() {
        TheatreSeasons x = withSubscription(6);
        x.hold(0, 0);
        x.sell(0, 20);
        Checks.refused(x, 9, 0, () -> x.setSeats(0, 25));
        Checks.refused(x, 9, 0, () -> x.setSeats(0, 10));
        Checks.is(40, x.account(10));
        Checks.is(60, x.setSeats(1, 10));
        Checks.is(40, x.setSeats(0, 26));
        Checks.is(0, x.performance(0, 5));
        Checks.is(26, x.setSeats(0, 26));
        x.release(0, 0);
        Checks.refused(x, 9, 0, () -> x.setSeats(0, 19));
        Checks.is(26, x.setSeats(0, 20));
        x.refund(0, 10);
        Checks.is(20, x.setSeats(0, 10));
    }

    private static void lowestInUse() {
        TheatreSeasons x = Fixtures.withPerformances();
        x.perform(0, 0, 10);
        x.perform(0, 0, 11);
        x.sell(2, 70);
        x.sell(3, 30);
        x.sell(4, 31);
        Checks.refused(x, 9, 3, () -> x.setSeats(0, 29));
        Checks.refused(x, 9, 4, () -> x.setSeats(0, 30));
        x.sell(0, 29);
        Checks.refused(x, 9, 3, () -> x.setSeats(0, 29));
        Checks.refused(x, 9, 0, () -> x.setSeats(0, 28));
        Checks.is(40, x.setSeats(0, 31));
        x.cancel(0);
        Checks.refused(x, 9, 2, () -> x.setSeats(0, 29));
    }

    // ---- requests

    private static void requestsKeepNothing() {
        TheatreSeasons x = withSubscription(6);
        x.request(0, 40, 9);
        Checks.is(1, x.hold(0, 0));
        Checks.is(0, x.sell(0, 34));
        Checks.is(1, x.performance(0, 6));
        TheatreSeasons y = withSubscription(6);
        y.hold(0, 1);
        y.request(0, 34, 9);
        Checks.is(1, y.exchange(0, 1, 0));
        Checks.is(34, y.performance(0, 5));
        Checks.is(1, y.performance(0, 6));
    }

    private static void requestWaits() {
        TheatreSeasons x = Fixtures.withPerformances();
        Checks.is(0, x.request(0, 1, 9));
        Checks.is(1, x.request(0, 1, 9));
        Checks.is(2, x.performance(0, 6));
        Checks.is(0, x.performance(0, 3));
        Checks.is(40, x.performance(0, 5));
        Checks.is(0, x.request(2, 99, 0));
        Checks.is(99, x.waiting(2, 0, false));
    }

    private static void orderOfRequests() {
        TheatreSeasons x = Fixtures.withPerformances();
        int[] priorities = {5, 0, 9, 5, 9, 0, 4, 6};
        int[] places = {0, 1, 0, 2, 1, 5, 4, 2};
        for (int k = 0; k < priorities.length; k++) {
            x.request(1, 50 + k, 9 - priorities[k]);
            Checks.is(places[k], x.request(0, 10 + k, priorities[k]));
        }
        int[] seats = {12, 14, 17, 10, 13, 16, 11, 15};
        int[] inOrder = {9, 9, 6, 5, 5, 4, 0, 0};
        for (int place = 0; place < seats.length; place++) {
            Checks.is(seats[place], x.waiting(0, place, false));
            Checks.is(inOrder[place], x.waiting(0, place, true));
        }
        Checks.noElement(() -> x.waiting(0, 8, false));
        Checks.is(51, x.waiting(1, 0, false));
        Checks.is(54, x.waiting(1, 7, false));
    }

    private static void servedExactly() {
        TheatreSeasons x = Fixtures.withPerformances();
        x.sell(0, 40);
        x.request(0, 5, 1);
        Checks.is(36, x.refund(0, 4));
        Checks.is(1, x.performance(0, 6));
        Checks.is(40, x.refund(0, 1));
        Checks.is(0, x.performance(0, 6));
        TheatreSeasons y = Fixtures.withPerformances();
        y.request(0, 99, 1);
        y.setSeats(0, 98);
        Checks.is(1, y.account(3));
        y.setSeats(0, 99);
        Checks.is(0, y.account(3));
        Checks.is(99, y.performance(0, 3));
    }

    private static void firstKeepsBehind() {
        TheatreSeasons x = Fixtures.withPerformances();
        x.sell(0, 40);
        x.request(0, 1, 3);
        x.request(0, 6, 4);
        Checks.is(35, x.refund(0, 5));
        Checks.is(2, x.performance(0, 6));
        Checks.is(6, x.waiting(0, 0, false));
        Checks.is(40, x.refund(0, 1));
        Checks.is(1, x.performance(0, 6));
        Checks.is(1, x.waiting(0, 0, false));
        Checks.is(40, x.refund(0, 1));
        Checks.is(0, x.performance(0, 6));
    }

    private static void servedOneByOne() {
        TheatreSeasons x = Fixtures.withPerformances();
        x.sell(0, 40);
        int[] seats = {4, 3, 2, 2, 1};
        for (int each : seats) {
            x.request(0, each, 5);
        }
        Checks.is(40 - 10 + 9, x.refund(0, 10));
        Checks.is(2, x.performance(0, 6));
        Checks.is(2, x.waiting(0, 0, false));
        Checks.is(40, x.refund(0, 2));
        Checks.is(0, x.performance(0, 5));
        Checks.is(0, x.performance(0, 6));
    }

    private static void allServed() {
        TheatreSeasons x = Fixtures.withPerformances();
        x.sell(0, 40);
        for (int k = 0; k < 20; k++) {
            x.request(0, 2, k % 10);
        }
        Checks.is(40, x.refund(0, 40));
        Checks.is(0, x.account(3));
        for (int k = 0; k < 20; k++) {
            x.request(0, k < 19 ? 1 : 2, 5);
        }
        Checks.is(40, x.setSeats(0, 60));
        Checks.is(1, x.account(3));
        Checks.is(59, x.performance(0, 3));
        Checks.is(60, x.setSeats(0, 61));
        Checks.is(0, x.account(3));
    }

    private static void refundTellsBehind() {
        TheatreSeasons x = Fixtures.withPerformances();
        x.sell(0, 20);
        Checks.is(15, x.refund(0, 5));
        x.request(0, 7, 0);
        Checks.is(15 - 1 + 7, x.refund(0, 1));
        x.request(1, 7, 0);
        Checks.is(20, x.refund(0, 1));
        Checks.is(0, x.refund(0, 20));
    }

    private static void releaseServes() {
        TheatreSeasons x = withSubscription(4);
        x.hold(0, 0);
        x.hold(0, 1);
        x.sell(0, 36);
        x.request(0, 4, 1);
        x.request(0, 1, 1);
        x.request(1, 1, 1);
        Checks.is(1, x.release(0, 0));
        Checks.is(40, x.performance(0, 3));
        Checks.is(1, x.performance(0, 6));
        Checks.is(1, x.performance(1, 6));
        Checks.is(0, x.performance(1, 3));
    }

    private static void exchangeServes() {
        TheatreSeasons x = withSubscription(4);
        x.hold(0, 0);
        x.sell(0, 36);
        x.request(0, 3, 1);
        x.request(0, 2, 1);
        x.request(1, 1, 1);
        x.request(2, 1, 1);
        Checks.is(1, x.exchange(0, 0, 1));
        Checks.is(39, x.performance(0, 3));
        Checks.is(1, x.performance(0, 5));
        Checks.is(1, x.performance(0, 6));
        Checks.is(1, x.performance(1, 6));
        Checks.is(1, x.performance(2, 6));
        Checks.is(4, x.performance(1, 4));
        Checks.is(0, x.performance(1, 3));
    }

    private static void setSeatsServes() {
        TheatreSeasons x = Fixtures.withPerformances();
        x.perform(1, 0, 10);
        x.sell(0, 40);
        x.sell(3, 35);
        x.request(3, 7, 1);
        x.request(0, 2, 1);
        x.request(0, 1, 1);
        x.request(1, 1, 1);
        x.request(2, 1, 1);
        Checks.is(40, x.setSeats(0, 42));
        Checks.is(42, x.performance(0, 3));
        Checks.is(1, x.performance(0, 6));
        Checks.is(42, x.performance(3, 3));
        Checks.is(0, x.performance(3, 6));
        Checks.is(1, x.performance(1, 6));
        Checks.is(1, x.performance(2, 6));
        Checks.is(80, x.setSeats(2, 79));
        Checks.is(0, x.performance(2, 6));
        Checks.is(1, x.performance(1, 6));
    }

    private static void sameSeatsServe() {
        for (int stage = 0; stage < 3; stage++) {
            TheatreSeasons x = Fixtures.withPerformances();
            int seats = 40 + 20 * stage;
            x.request(stage, seats, 1);
            Checks.is(seats, x.setSeats(stage, seats));
            Checks.is(seats, x.performance(stage, 3));
            Checks.is(0, x.account(3));
            Checks.is(5, x.undo());
            Checks.is(1, x.account(3));
        }
    }

    private static void fewerSeatsServe() {
        TheatreSeasons x = Fixtures.withPerformances();
        x.sell(0, 5);
        x.request(0, 6, 1);
        Checks.is(40, x.setSeats(0, 10));
        Checks.is(1, x.performance(0, 6));
        Checks.is(10, x.setSeats(0, 11));
        Checks.is(0, x.performance(0, 6));
        TheatreSeasons y = Fixtures.withPerformances();
        y.request(1, 20, 1);
        y.setSeats(1, 30);
        Checks.is(20, y.performance(1, 3));
        Checks.refused(y, 9, 1, () -> y.setSeats(1, 19));
    }

    private static void othersStay() {
        TheatreSeasons x = Fixtures.withPerformances();
        x.sell(0, 40);
        x.request(1, 31, 2);
        x.request(0, 2, 7);
        x.request(0, 4, 3);
        x.request(0, 3, 5);
        x.request(1, 32, 6);
        Checks.is(40, x.refund(0, 2));
        checkWaiting(x, 0, 3, 5, 4, 3);
        checkWaiting(x, 1, 32, 6, 31, 2);
        Checks.is(1, x.request(0, 5, 4));
        checkWaiting(x, 0, 3, 5, 5, 4, 4, 3);
        Checks.is(40, x.refund(0, 3));
        checkWaiting(x, 0, 5, 4, 4, 3);
        x.cancel(0);
        checkWaiting(x, 0, 32, 6, 31, 2);
        Checks.is(1, x.request(0, 33, 5));
        checkWaiting(x, 0, 32, 6, 33, 5, 31, 2);
    }

    /** Checks the seats and the priority of each request for a performance, in order. */
    private static void checkWaiting(TheatreSeasons x, int performance, int... due) {
        Checks.is(due.length / 2, x.performance(performance, 6));
        for (int place = 0; place < due.length / 2; place++) {
            Checks.is(due[2 * place], x.waiting(performance, place, false));
            Checks.is(due[2 * place + 1], x.waiting(performance, place, true));
        }
        Checks.noElement(() -> x.waiting(performance, due.length / 2, true));
    }

    private static void nothingElseServes() {
        TheatreSeasons x = withSubscription(2);
        x.perform(1, 0, 20);
        for (int k = 0; k < 4; k++) {
            x.request(k, 1, 1);
        }
        x.setStaff(7);
        x.setRoom(30);
        x.addProduction(1, 1, 1, 1);
        x.perform(2, 1, 25);
        x.move(0, 10);
        x.sell(0, 1);
        x.hold(0, 0);
        x.request(0, 1, 1);
        x.subscribe(1);
        x.cancel(3);
        x.save();
        x.undo();
        x.restore();
        Fixtures.read(x, "m0@11;s0x1;h1:0");
        x.exchange(0, 0, 1);
        Checks.is(0, x.performance(0, 6));
        Checks.is(1, x.performance(1, 6));
        Checks.is(1, x.performance(2, 6));
        Checks.is(0, x.performance(1, 3));
        Checks.is(4, x.performance(0, 3));
    }

    // ---- what the calls tell

    private static void heldPerformances() {
        TheatreSeasons x = withSubscription(2);
        x.subscribe(3);
        for (int k = 0; k < 3; k++) {
            Checks.is(k + 1, x.hold(0, k));
        }
        Checks.is(1, x.hold(1, 1));
        Checks.is(2, x.release(0, 1));
        Checks.is(5, x.subscription(0, 3));
        Checks.is(1, x.release(0, 0));
        Checks.is(0, x.release(0, 2));
        Checks.is(0, x.subscription(0, 1));
        Checks.is(1, x.subscription(1, 1));
    }

    private static void cancelDrops() {
        TheatreSeasons x = withSubscription(2);
        x.hold(0, 0);
        x.hold(0, 1);
        x.sell(0, 3);
        x.sell(1, 4);
        x.request(0, 1, 1);
        x.request(1, 9, 1);
        Checks.is(3, x.cancel(0));
        Checks.is(4, x.account(4));
        Checks.is(2, x.account(5));
        Checks.is(1, x.account(3));
        Checks.is(1, x.subscription(0, 3));
        Checks.is(4 * 9 + 2 * 7, x.account(9));
        Checks.is(0, x.subscription(0, 2));
        Checks.is(2, x.perform(0, 0, 2));
        Checks.is(0, x.performance(2, 3));
        Checks.is(0, x.performance(2, 4));
        Checks.is(0, x.performance(2, 6));
        Checks.is(0, x.performance(2, 7));
    }

    private static void addUp() {
        TheatreSeasons x = Fixtures.withSeats();
        x.setSeats(2, 25);
        x.setSeats(0, 99);
        int[] sums = new int[3];
        for (int date = 0; date < 30; date++) {
            for (int what = 0; what < 3; what++) {
                Checks.is(x.seats(date, what), x.seatsAgain(date, what));
                sums[what] += x.seats(date, what);
            }
        }
        for (int what = 0; what < 3; what++) {
            Checks.is(sums[what], x.account(4 + what));
        }
        Checks.is(99 + 60 + 25 + 99, sums[0] + sums[1] + sums[2]);
        Checks.is(0, x.performance(2, 5));
        Checks.is(95, x.seatsAgain(4, 2));
    }
}
