/** At least one group of checks for each promise of the document, named by the promise's number. */
public final class PromiseTests {
    private PromiseTests() {
    }

    public static void main(String[] args) {
        Checks.group("promise 1, a new object", PromiseTests::newObject);
        Checks.group("promise 2, setSeats", PromiseTests::setSeats);
        Checks.group("promise 3, setStaff", PromiseTests::setStaff);
        Checks.group("promise 4, setRoom", PromiseTests::setRoom);
        Checks.group("promise 5, addProduction", PromiseTests::addProduction);
        Checks.group("promise 6, production", PromiseTests::production);
        Checks.group("promise 7, perform", PromiseTests::perform);
        Checks.group("promise 7, perform refused", PromiseTests::performRefused);
        Checks.group("promise 8, cancel", PromiseTests::cancel);
        Checks.group("promise 8, cancel renumbers", PromiseTests::cancelRenumbers);
        Checks.group("promise 9, move", PromiseTests::move);
        Checks.group("promise 10, performance", PromiseTests::performance);
        Checks.group("promise 11, on", PromiseTests::on);
        Checks.group("promise 12, nextDate", PromiseTests::nextDate);
        Checks.group("promise 13, bestMove", PromiseTests::bestMove);
        Checks.group("promise 14, load", PromiseTests::load);
        Checks.group("promise 15, peak", PromiseTests::peak);
        Checks.group("promise 16, sell", PromiseTests::sell);
        Checks.group("promise 17, refund", PromiseTests::refund);
        Checks.group("promise 18, request", PromiseTests::request);
        Checks.group("promise 19, waiting", PromiseTests::waiting);
        Checks.group("promise 20, seats", PromiseTests::seats);
        Checks.group("promise 21, seatsAgain", PromiseTests::seatsAgain);
        Checks.group("promise 22, subscribe", PromiseTests::subscribe);
        Checks.group("promise 23, hold", PromiseTests::hold);
        Checks.group("promise 24, release", PromiseTests::release);
        Checks.group("promise 25, exchange", PromiseTests::exchange);
        Checks.group("promise 26, subscription", PromiseTests::subscription);
        Checks.group("promise 27, partner", PromiseTests::partner);
        Checks.group("promise 28, fullness", PromiseTests::fullness);
        Checks.group("promise 29, reason", PromiseTests::reason);
        Checks.group("promise 30, account", PromiseTests::account);
        Checks.group("promise 31, append", PromiseTests::append);
        Checks.group("promise 32, read", PromiseTests::read);
        Checks.group("promise 32, read fails as a whole", PromiseTests::readFails);
        Checks.group("promise 33, errorPosition", PromiseTests::errorPosition);
        Checks.group("promise 34, undo", PromiseTests::undo);
        Checks.group("promise 34, what is a change", PromiseTests::changes);
        Checks.group("promise 35, save", PromiseTests::save);
        Checks.group("promise 36, restore", PromiseTests::restore);
        Checks.end();
    }

    private static void newObject() {
        TheatreSeasons x = new TheatreSeasons();
        int[] due = {0, 0, 0, 0, 0, 0, 0, 6, 20, 0, 40, 60, 80, 0, 0};
        for (int k = 0; k < due.length; k++) {
            Checks.is(due[k], x.account(k));
        }
        Checks.is(0, x.peak());
        Checks.noElement(() -> x.reason(false));
        Checks.noElement(x::errorPosition);
        Checks.noElement(x::undo);
        Checks.noState(x::restore);
        Checks.noIndex(() -> x.production(0, 0));
        Checks.noIndex(() -> x.performance(0, 0));
        Checks.noIndex(() -> x.subscription(0, 0));
        TheatreSeasons y = new TheatreSeasons();
        x.setStaff(9);
        Checks.is(6, y.account(7));
    }

    private static void setSeats() {
        TheatreSeasons x = Fixtures.withPerformances();
        Checks.is(40, x.setSeats(0, 10));
        Checks.is(10, x.setSeats(0, 99));
        Checks.is(60, x.setSeats(1, 61));
        Checks.is(80, x.setSeats(2, 80));
        Checks.noIndex(() -> x.setSeats(-1, 20));
        Checks.noIndex(() -> x.setSeats(3, 9));
        Checks.noArgument(() -> x.setSeats(0, 9));
        Checks.noArgument(() -> x.setSeats(0, 100));
        x.perform(1, 0, 9);
        x.sell(0, 30);
        x.subscribe(4);
        x.hold(0, 0);
        Checks.refused(x, 9, 0, () -> x.setSeats(0, 33));
        Checks.is(99, x.account(10));
        Checks.is(99, x.setSeats(0, 34));
        x.sell(3, 34);
        Checks.refused(x, 9, 0, () -> x.setSeats(0, 20));
        Checks.is(34, x.setSeats(0, 34));
        x.refund(0, 20);
        Checks.refused(x, 9, 3, () -> x.setSeats(0, 33));
        servedBySetSeats();
    }

    private static void servedBySetSeats() {
        TheatreSeasons x = Fixtures.withPerformances();
        x.perform(1, 0, 9);
        x.request(0, 41, 1);
        x.request(0, 9, 0);
        x.request(3, 5, 0);
        x.request(2, 5, 0);
        Checks.is(40, x.setSeats(0, 40));
        Checks.is(0, x.performance(0, 3));
        Checks.is(5, x.performance(3, 3));
        Checks.is(0, x.performance(2, 3));
        Checks.is(40, x.setSeats(0, 50));
        Checks.is(50, x.performance(0, 3));
        Checks.is(0, x.performance(0, 6));
        Checks.is(1, x.account(3));
    }

    private static void setStaff() {
        TheatreSeasons x = Fixtures.withProductions();
        Checks.is(6, x.setStaff(20));
        Checks.is(20, x.setStaff(1));
        Checks.noArgument(() -> x.setStaff(0));
        Checks.noArgument(() -> x.setStaff(21));
        Checks.is(1, x.setStaff(5));
        x.perform(1, 0, 8);
        x.perform(0, 1, 8);
        x.perform(1, 0, 3);
        Checks.refused(x, 2, 1, () -> x.setStaff(2));
        Checks.is(5, x.account(7));
        x.cancel(2);
        Checks.refused(x, 2, 3, () -> x.setStaff(2));
        Checks.refused(x, 2, 1, () -> x.setStaff(4));
        Checks.is(5, x.setStaff(5));
    }

    private static void setRoom() {
        TheatreSeasons x = Fixtures.withPerformances();
        Checks.is(20, x.setRoom(99));
        Checks.is(99, x.setRoom(5));
        Checks.refused(x, 3, 3, () -> x.setRoom(4));
        Checks.is(5, x.account(8));
        Checks.noArgument(() -> x.setRoom(-1));
        Checks.noArgument(() -> x.setRoom(100));
        x.setRoom(8);
        x.perform(1, 1, 8);
        Checks.refused(x, 3, 5, () -> x.setRoom(7));
        Checks.refused(x, 3, 3, () -> x.setRoom(0));
        TheatreSeasons empty = new TheatreSeasons();
        Checks.is(20, empty.setRoom(0));
        Checks.is(0, empty.setRoom(0));
    }

    private static void addProduction() {
        TheatreSeasons x = new TheatreSeasons();
        Checks.is(0, x.addProduction(1, 1, 1, 0));
        Checks.is(1, x.addProduction(9, 6, 50, 100));
        Checks.noArgument(() -> x.addProduction(0, 1, 1, 0));
        Checks.noArgument(() -> x.addProduction(10, 1, 1, 0));
        Checks.noArgument(() -> x.addProduction(1, 0, 1, 0));
        Checks.noArgument(() -> x.addProduction(1, 7, 1, 0));
        Checks.noArgument(() -> x.addProduction(1, 1, 0, 0));
        Checks.noArgument(() -> x.addProduction(1, 1, 51, 0));
        Checks.noArgument(() -> x.addProduction(1, 1, 1, -1));
        Checks.noArgument(() -> x.addProduction(1, 1, 1, 101));
        for (int k = 2; k < 8; k++) {
            Checks.is(k, x.addProduction(k, 1, 1, 0));
        }
        Checks.noState(() -> x.addProduction(1, 1, 1, 1));
        Checks.noArgument(() -> x.addProduction(1, 1, 1, 101));
        Checks.is(8, x.account(0));
        Checks.is(7, x.production(7, 0));
    }

    private static void production() {
        TheatreSeasons x = Fixtures.withProductions();
        int[] due = {5, 2, 9, 30, 0, -1, -1, 0};
        for (int k = 0; k < 8; k++) {
            Checks.is(due[k], x.production(0, k));
        }
        Checks.is(100, x.production(1, 3));
        x.perform(0, 0, 29);
        x.perform(0, 1, 0);
        x.perform(0, 0, 15);
        x.perform(1, 1, 7);
        Checks.is(3, x.production(0, 4));
        Checks.is(0, x.production(0, 5));
        Checks.is(29, x.production(0, 6));
        Checks.is(7, x.production(1, 5));
        Checks.is(7, x.production(1, 6));
        x.sell(0, 10);
        x.sell(2, 1);
        x.subscribe(3);
        x.hold(0, 1);
        Checks.is(11 * 9 + 3 * 7, x.production(0, 7));
        Checks.is(0, x.production(1, 7));
        x.hold(0, 3);
        Checks.is(3 * 16, x.production(1, 7));
        Checks.noIndex(() -> x.production(2, 0));
        Checks.noIndex(() -> x.production(-1, 9));
        Checks.noArgument(() -> x.production(0, -1));
        Checks.noArgument(() -> x.production(0, 8));
    }

    private static void perform() {
        TheatreSeasons x = Fixtures.withProductions();
        Checks.is(0, x.perform(0, 2, 29));
        Checks.is(1, x.perform(0, 0, 0));
        Checks.noIndex(() -> x.perform(2, 0, 3));
        Checks.noIndex(() -> x.perform(-1, 0, 30));
        Checks.noIndex(() -> x.perform(0, 3, -1));
        Checks.noIndex(() -> x.perform(0, -1, 3));
        Checks.noArgument(() -> x.perform(0, 0, 30));
        Checks.noArgument(() -> x.perform(0, 0, -1));
        for (int date = 1; date < 23; date++) {
            Checks.is(date + 1, x.perform(0, 0, date));
        }
        Checks.is(24, x.account(1));
        Checks.noState(() -> x.perform(0, 0, 1));
        Checks.noState(() -> x.perform(0, 0, 25));
        Checks.noArgument(() -> x.perform(0, 0, 30));
        Checks.is(24, x.account(1));
    }

    private static void performRefused() {
        TheatreSeasons x = Fixtures.withPerformances();
        Checks.refused(x, 1, 2, () -> x.perform(0, 2, 4));
        Checks.refused(x, 1, 2, () -> x.perform(1, 0, 4));
        x.perform(0, 0, 4);
        Checks.refused(x, 1, 2, () -> x.perform(0, 2, 4));
        Checks.refused(x, 1, 2, () -> x.perform(1, 0, 4));
        x.addProduction(9, 6, 1, 0);
        Checks.refused(x, 2, 5, () -> x.perform(2, 1, 4));
        Checks.refused(x, 2, 2, () -> x.perform(2, 0, 6));
        Checks.refused(x, 1, 1, () -> x.perform(2, 1, 6));
        x.setRoom(9);
        x.perform(2, 0, 8);
        Checks.is(5, x.perform(2, 0, 10));
        Checks.refused(x, 3, 3, () -> x.perform(2, 0, 1));
        Checks.is(9, x.load(9));
        Checks.is(6, x.account(1));
        x.setRoom(14);
        Checks.is(6, x.perform(2, 0, 1));
    }

    private static void cancel() {
        TheatreSeasons x = Fixtures.withPerformances();
        x.sell(1, 8);
        Checks.is(8, x.cancel(1));
        Checks.is(2, x.account(1));
        Checks.is(0, x.account(4));
        Checks.is(0, x.load(3));
        Checks.noElement(() -> x.on(1, 6));
        Checks.is(1, x.on(2, 4));
        Checks.noIndex(() -> x.cancel(-1));
        Checks.noIndex(() -> x.cancel(2));
        Checks.is(2, x.perform(0, 1, 6));
    }

    private static void cancelRenumbers() {
        TheatreSeasons x = Fixtures.withPerformances();
        x.subscribe(2);
        x.hold(0, 0);
        x.hold(0, 2);
        x.sell(0, 7);
        x.sell(1, 11);
        x.request(0, 3, 3);
        x.request(2, 4, 4);
        x.request(1, 5, 5);
        x.request(0, 6, 6);
        Checks.is(7, x.cancel(0));
        Checks.is(2, x.account(1));
        Checks.is(2, x.account(3));
        Checks.is(5, x.waiting(0, 0, false));
        Checks.is(4, x.waiting(1, 0, false));
        Checks.is(11, x.performance(0, 3));
        Checks.is(2, x.subscription(0, 3));
        Checks.is(0, x.performance(0, 4));
        Checks.is(2, x.performance(1, 4));
        Checks.is(5, x.waiting(0, 0, true));
        Checks.is(4, x.waiting(1, 0, true));
        Checks.is(1, x.performance(1, 7));
        Checks.is(0, x.performance(0, 7));
        Checks.is(6, x.production(0, 5));
        Checks.is(0, x.cancel(1));
        Checks.is(0, x.subscription(0, 1));
        Checks.is(1, x.account(3));
        Checks.is(-1, x.production(1, 5));
        cancelRefused();
    }

    private static void cancelRefused() {
        TheatreSeasons x = new TheatreSeasons();
        x.addProduction(9, 1, 1, 0);
        x.addProduction(4, 1, 1, 0);
        x.perform(0, 0, 1);
        x.perform(0, 0, 2);
        x.perform(0, 0, 3);
        x.perform(1, 1, 1);
        x.perform(1, 1, 3);
        x.sell(1, 3);
        x.setRoom(12);
        Checks.refused(x, 3, 2, () -> x.cancel(1));
        Checks.is(5, x.account(1));
        Checks.is(3, x.performance(1, 3));
        x.setRoom(13);
        Checks.is(3, x.cancel(1));
        Checks.is(13, x.load(2));
        Checks.is(0, x.cancel(0));
        Checks.is(4, x.load(2));
    }

    private static void move() {
        TheatreSeasons x = Fixtures.withPerformances();
        x.sell(0, 5);
        x.request(0, 5, 5);
        Checks.is(2, x.move(0, 2));
        Checks.is(2, x.move(0, 5));
        Checks.is(5, x.performance(0, 2));
        Checks.is(5, x.performance(0, 3));
        Checks.is(1, x.performance(0, 6));
        Checks.is(5, x.production(0, 5));
        Checks.is(0, x.on(0, 5));
        Checks.noElement(() -> x.on(0, 2));
        Checks.noIndex(() -> x.move(3, 40));
        Checks.noIndex(() -> x.move(-1, 4));
        Checks.noArgument(() -> x.move(0, 30));
        Checks.noArgument(() -> x.move(0, -1));
        moveRefused();
        moveWithoutRoom();
    }

    private static void moveRefused() {
        TheatreSeasons x = Fixtures.withPerformances();
        x.addProduction(9, 6, 1, 0);
        x.perform(2, 0, 10);
        Checks.refused(x, 1, 1, () -> x.move(0, 6));
        Checks.refused(x, 1, 0, () -> x.move(3, 2));
        Checks.refused(x, 2, 3, () -> x.move(2, 10));
        Checks.refused(x, 2, 2, () -> x.move(3, 6));
        x.perform(1, 0, 12);
        x.perform(0, 1, 12);
        Checks.refused(x, 1, 4, () -> x.move(0, 12));
        Checks.is(2, x.performance(0, 2));
    }

    private static void moveWithoutRoom() {
        TheatreSeasons x = Fixtures.withProductions();
        x.perform(0, 0, 2);
        x.perform(0, 0, 4);
        x.perform(1, 1, 3);
        x.perform(1, 1, 6);
        x.setRoom(5);
        Checks.refused(x, 3, 3, () -> x.move(2, 2));
        Checks.refused(x, 3, 4, () -> x.move(1, 8));
        Checks.refused(x, 3, 4, () -> x.move(1, 5));
        Checks.is(6, x.move(3, 4));
        Checks.is(4, x.move(1, 8));
        Checks.is(5, x.peak());
    }

    private static void performance() {
        TheatreSeasons x = Fixtures.withPerformances();
        x.subscribe(4);
        x.subscribe(5);
        x.subscribe(6);
        x.hold(0, 1);
        x.hold(2, 1);
        x.sell(1, 12);
        x.request(1, 40, 0);
        x.request(1, 41, 0);
        x.request(2, 42, 0);
        int[] due = {0, 1, 6, 12, 10, 38, 2, 5};
        for (int k = 0; k < 8; k++) {
            Checks.is(due[k], x.performance(1, k));
        }
        Checks.is(1, x.performance(2, 0));
        Checks.noIndex(() -> x.performance(3, 0));
        Checks.noIndex(() -> x.performance(-1, 8));
        Checks.noArgument(() -> x.performance(0, -1));
        Checks.noArgument(() -> x.performance(0, 8));
    }

    private static void on() {
        TheatreSeasons x = Fixtures.withPerformances();
        Checks.is(0, x.on(0, 2));
        Checks.is(2, x.on(2, 4));
        Checks.noElement(() -> x.on(1, 2));
        Checks.noElement(() -> x.on(0, 29));
        Checks.noIndex(() -> x.on(3, 30));
        Checks.noIndex(() -> x.on(-1, 2));
        Checks.noArgument(() -> x.on(0, 30));
        Checks.noArgument(() -> x.on(0, -1));
    }

    private static void nextDate() {
        TheatreSeasons x = Fixtures.withPerformances();
        Checks.is(0, x.nextDate(0, 0, 0));
        Checks.is(3, x.nextDate(0, 0, 2));
        Checks.is(5, x.nextDate(0, 2, 4));
        Checks.is(7, x.nextDate(0, 2, 6));
        Checks.is(29, x.nextDate(0, 0, 29));
        x.setStaff(4);
        Checks.is(5, x.nextDate(0, 0, 4));
        x.setRoom(5);
        Checks.is(5, x.nextDate(1, 2, 4));
        Checks.noElement(() -> x.nextDate(1, 0, 6));
        x.addProduction(1, 5, 1, 1);
        Checks.noElement(() -> x.nextDate(2, 0, 0));
        Checks.noElement(() -> x.reason(false));
        Checks.noIndex(() -> x.nextDate(3, 0, 30));
        Checks.noIndex(() -> x.nextDate(-1, 0, 0));
        Checks.noIndex(() -> x.nextDate(0, 3, 0));
        Checks.noArgument(() -> x.nextDate(0, 0, 30));
        Checks.noArgument(() -> x.nextDate(0, 0, -1));
        nextDateAtTheLimit();
    }

    private static void nextDateAtTheLimit() {
        TheatreSeasons x = Fixtures.withProductions();
        for (int date = 0; date < 24; date++) {
            x.perform(0, 0, date);
        }
        Checks.is(24, x.nextDate(0, 1, 5));
        Checks.is(5, x.nextDate(1, 1, 5));
        x.cancel(0);
        x.perform(0, 0, 29);
        Checks.noElement(() -> x.nextDate(0, 0, 29));
        Checks.is(28, x.nextDate(0, 0, 28));
    }

    private static void bestMove() {
        TheatreSeasons x = new TheatreSeasons();
        x.addProduction(5, 1, 1, 1);
        x.perform(0, 0, 0);
        x.perform(0, 0, 9);
        Checks.is(8, x.bestMove(0));
        Checks.is(1, x.bestMove(1));
        x.perform(0, 1, 29);
        Checks.is(1, x.bestMove(0));
        Checks.is(0, x.move(0, 10));
        Checks.is(10, x.performance(0, 2));
        TheatreSeasons first = new TheatreSeasons();
        first.addProduction(5, 1, 1, 1);
        first.perform(0, 0, 12);
        Checks.is(0, first.bestMove(0));
        first.move(0, 0);
        Checks.is(1, first.bestMove(0));
        Checks.is(0, first.production(0, 6));
        Checks.noIndex(() -> x.bestMove(3));
        Checks.noIndex(() -> x.bestMove(-1));
        Checks.noElement(() -> x.reason(false));
        TheatreSeasons y = new TheatreSeasons();
        y.addProduction(5, 6, 1, 1);
        for (int date = 0; date < 24; date++) {
            y.perform(0, 0, date);
        }
        y.setRoom(0);
        Checks.is(24, y.bestMove(0));
        Checks.noElement(() -> y.bestMove(5));
        TheatreSeasons z = new TheatreSeasons();
        z.addProduction(5, 6, 1, 1);
        z.setRoom(0);
        for (int date = 6; date < 30; date++) {
            z.perform(0, 0, date);
        }
        Checks.noElement(() -> z.bestMove(0));
        Checks.is(5, z.bestMove(23));
    }

    private static void load() {
        TheatreSeasons x = Fixtures.withPerformances();
        int[] due = {0, 0, 0, 5, 5, 5, 0, 0};
        for (int date = 0; date < due.length; date++) {
            Checks.is(due[date], x.load(date));
        }
        x.perform(1, 0, 0);
        Checks.is(3, x.load(1));
        Checks.is(3, x.load(2));
        Checks.is(8, x.load(3));
        Checks.is(5, x.load(4));
        Checks.is(0, x.load(29));
        Checks.noArgument(() -> x.load(30));
        Checks.noArgument(() -> x.load(-1));
    }

    private static void peak() {
        TheatreSeasons x = Fixtures.withPerformances();
        Checks.is(5, x.peak());
        x.perform(1, 0, 0);
        Checks.is(8, x.peak());
        x.cancel(1);
        Checks.is(3, x.peak());
        x.cancel(1);
        Checks.is(0, x.peak());
        x.perform(0, 0, 29);
        Checks.is(5, x.peak());
    }

    private static void sell() {
        TheatreSeasons x = Fixtures.withPerformances();
        Checks.is(30, x.sell(0, 10));
        Checks.refused(x, 4, 30, () -> x.sell(0, 31));
        Checks.is(10, x.performance(0, 3));
        x.subscribe(6);
        x.hold(0, 0);
        Checks.refused(x, 4, 24, () -> x.sell(0, 25));
        x.request(0, 1, 9);
        Checks.is(0, x.sell(0, 24));
        Checks.refused(x, 4, 0, () -> x.sell(0, 1));
        Checks.is(1, x.performance(0, 6));
        Checks.noIndex(() -> x.sell(3, 0));
        Checks.noIndex(() -> x.sell(-1, 1));
        Checks.noArgument(() -> x.sell(0, 0));
        Checks.noArgument(() -> x.sell(0, 100));
        Checks.refused(x, 4, 80, () -> x.sell(2, 99));
        x.setSeats(2, 99);
        Checks.is(0, x.sell(2, 99));
    }

    private static void refund() {
        TheatreSeasons x = Fixtures.withPerformances();
        x.sell(0, 40);
        Checks.is(30, x.refund(0, 10));
        Checks.refused(x, 7, 30, () -> x.refund(0, 31));
        Checks.refused(x, 7, 0, () -> x.refund(1, 1));
        x.request(0, 12, 5);
        x.request(0, 3, 5);
        x.request(0, 2, 9);
        x.request(1, 2, 9);
        Checks.is(30 - 1 + 2, x.refund(0, 1));
        Checks.is(2, x.performance(0, 6));
        Checks.is(28 + 12, x.refund(0, 3));
        Checks.is(39, x.refund(0, 1));
        Checks.is(1, x.performance(0, 6));
        Checks.is(37 + 3, x.refund(0, 2));
        Checks.is(0, x.performance(0, 6));
        Checks.is(1, x.performance(1, 6));
        x.sell(2, 9);
        Checks.is(0, x.refund(2, 9));
        allServed();
        Checks.noIndex(() -> x.refund(3, 0));
        Checks.noIndex(() -> x.refund(-1, 1));
        Checks.noArgument(() -> x.refund(0, 0));
        Checks.noArgument(() -> x.refund(0, 100));
    }

    private static void allServed() {
        TheatreSeasons x = Fixtures.withPerformances();
        x.sell(0, 40);
        for (int k = 0; k < 20; k++) {
            x.request(0, 1, k / 2);
        }
        Checks.is(40, x.refund(0, 2));
        Checks.is(18, x.account(3));
        Checks.is(8, x.waiting(0, 0, true));
        Checks.is(40, x.refund(0, 18));
        Checks.is(0, x.account(3));
        for (int k = 0; k < 20; k++) {
            x.request(0, 1, k / 2);
        }
        x.setSeats(0, 60);
        Checks.is(0, x.account(3));
        Checks.is(60, x.performance(0, 3));
    }

    private static void request() {
        TheatreSeasons x = Fixtures.withPerformances();
        Checks.is(0, x.request(0, 1, 4));
        Checks.is(1, x.request(0, 2, 4));
        Checks.is(0, x.request(0, 3, 5));
        Checks.is(3, x.request(0, 4, 0));
        Checks.is(3, x.request(0, 5, 4));
        Checks.is(0, x.request(1, 99, 9));
        Checks.is(0, x.performance(0, 3));
        int[] due = {3, 1, 2, 5, 4};
        for (int place = 0; place < due.length; place++) {
            Checks.is(due[place], x.waiting(0, place, false));
        }
        Checks.noIndex(() -> x.request(3, 0, 10));
        Checks.noIndex(() -> x.request(-1, 1, 1));
        Checks.noArgument(() -> x.request(0, 0, 1));
        Checks.noArgument(() -> x.request(0, 100, 1));
        Checks.noArgument(() -> x.request(0, 1, -1));
        Checks.noArgument(() -> x.request(0, 1, 10));
        for (int k = 6; k < 20; k++) {
            Checks.is(k - 6, x.request(2, 7, 7));
        }
        Checks.refused(x, 8, 20, () -> x.request(1, 1, 9));
        Checks.noArgument(() -> x.request(0, 0, 1));
        Checks.is(20, x.account(3));
    }

    private static void waiting() {
        TheatreSeasons x = Fixtures.withPerformances();
        x.request(0, 31, 4);
        x.request(1, 32, 5);
        x.request(0, 33, 6);
        Checks.is(33, x.waiting(0, 0, false));
        Checks.is(6, x.waiting(0, 0, true));
        Checks.is(31, x.waiting(0, 1, false));
        Checks.is(4, x.waiting(0, 1, true));
        Checks.is(5, x.waiting(1, 0, true));
        Checks.noElement(() -> x.waiting(0, 2, true));
        Checks.noElement(() -> x.waiting(0, -1, false));
        Checks.noElement(() -> x.waiting(2, 0, false));
        Checks.noIndex(() -> x.waiting(3, 0, false));
        Checks.noIndex(() -> x.waiting(-1, 0, true));
    }

    private static void seats() {
        TheatreSeasons x = Fixtures.withSeats();
        Checks.is(21, x.seats(4, 0));
        Checks.is(8, x.seats(4, 1));
        Checks.is(120 - 29, x.seats(4, 2));
        Checks.is(3, x.seats(2, 1));
        Checks.is(0, x.seats(5, 2));
        Checks.noArgument(() -> x.seats(30, 0));
        Checks.noArgument(() -> x.seats(-1, 0));
        Checks.noArgument(() -> x.seats(0, 3));
        Checks.noArgument(() -> x.seats(0, -1));
    }

    private static void seatsAgain() {
        TheatreSeasons x = Fixtures.withSeats();
        Checks.is(21, x.seatsAgain(4, 0));
        Checks.is(8, x.seatsAgain(4, 1));
        Checks.is(120 - 29, x.seatsAgain(4, 2));
        Checks.is(3, x.seatsAgain(2, 1));
        Checks.is(0, x.seatsAgain(5, 2));
        Checks.noArgument(() -> x.seatsAgain(30, 0));
        Checks.noArgument(() -> x.seatsAgain(-1, 0));
        Checks.noArgument(() -> x.seatsAgain(0, 3));
        Checks.noArgument(() -> x.seatsAgain(0, -1));
    }

    private static void subscribe() {
        TheatreSeasons x = new TheatreSeasons();
        Checks.is(0, x.subscribe(1));
        Checks.is(1, x.subscribe(6));
        Checks.noArgument(() -> x.subscribe(0));
        Checks.noArgument(() -> x.subscribe(7));
        for (int k = 2; k < 10; k++) {
            Checks.is(k, x.subscribe(3));
        }
        Checks.noState(() -> x.subscribe(3));
        Checks.noArgument(() -> x.subscribe(7));
        Checks.is(10, x.account(2));
    }

    private static void hold() {
        TheatreSeasons x = Fixtures.withPerformances();
        x.subscribe(6);
        x.subscribe(1);
        x.sell(0, 34);
        Checks.is(1, x.hold(0, 0));
        Checks.is(2, x.hold(0, 2));
        Checks.is(0, x.performance(0, 5));
        Checks.refused(x, 4, 0, () -> x.hold(0, 0));
        Checks.refused(x, 4, 0, () -> x.hold(1, 0));
        Checks.refused(x, 5, 2, () -> x.hold(0, 2));
        x.refund(0, 1);
        x.request(0, 1, 9);
        Checks.is(1, x.hold(1, 0));
        Checks.is(3, x.performance(0, 7));
        Checks.is(7, x.performance(0, 4));
        Checks.noIndex(() -> x.hold(2, 0));
        Checks.noIndex(() -> x.hold(-1, 0));
        Checks.noIndex(() -> x.hold(0, 3));
        Checks.noIndex(() -> x.hold(0, -1));
    }

    private static void release() {
        TheatreSeasons x = Fixtures.withPerformances();
        x.subscribe(6);
        x.hold(0, 0);
        x.hold(0, 1);
        x.sell(0, 34);
        x.request(0, 4, 1);
        x.request(0, 3, 1);
        x.request(1, 3, 1);
        Checks.is(1, x.release(0, 0));
        Checks.is(38, x.performance(0, 3));
        Checks.is(0, x.performance(0, 4));
        Checks.is(1, x.performance(0, 6));
        Checks.is(1, x.performance(1, 6));
        Checks.refused(x, 5, 0, () -> x.release(0, 0));
        Checks.refused(x, 5, 2, () -> x.release(0, 2));
        Checks.is(0, x.release(0, 1));
        Checks.noIndex(() -> x.release(1, 0));
        Checks.noIndex(() -> x.release(-1, 0));
        Checks.noIndex(() -> x.release(0, 3));
        Checks.noIndex(() -> x.release(0, -1));
    }

    private static void exchange() {
        TheatreSeasons x = Fixtures.withPerformances();
        x.subscribe(6);
        x.sell(0, 34);
        x.hold(0, 0);
        x.request(0, 6, 0);
        x.request(1, 6, 0);
        x.sell(2, 75);
        Checks.refused(x, 4, 5, () -> x.exchange(0, 0, 2));
        Checks.refused(x, 5, 1, () -> x.exchange(0, 1, 2));
        Checks.refused(x, 5, 0, () -> x.exchange(0, 0, 0));
        Checks.refused(x, 5, 2, () -> x.exchange(0, 2, 2));
        Checks.is(1, x.exchange(0, 0, 1));
        Checks.is(40, x.performance(0, 3));
        Checks.is(0, x.performance(0, 7));
        Checks.is(6, x.performance(1, 4));
        Checks.is(1, x.performance(1, 6));
        x.refund(2, 1);
        x.hold(0, 2);
        Checks.refused(x, 5, 2, () -> x.exchange(0, 1, 2));
        x.release(0, 2);
        Checks.is(2, x.exchange(0, 1, 2));
        Checks.is(6, x.performance(1, 3));
        Checks.refused(x, 6, 2, () -> x.exchange(0, 2, 0));
        x.hold(0, 1);
        Checks.refused(x, 5, 1, () -> x.exchange(0, 2, 1));
        Checks.is(2, x.subscription(0, 2));
        Checks.noIndex(() -> x.exchange(1, 0, 1));
        Checks.noIndex(() -> x.exchange(-1, 0, 1));
        Checks.noIndex(() -> x.exchange(0, 3, 1));
        Checks.noIndex(() -> x.exchange(0, -1, 1));
        Checks.noIndex(() -> x.exchange(0, 2, 3));
        Checks.noIndex(() -> x.exchange(0, 2, -1));
    }

    private static void subscription() {
        TheatreSeasons x = Fixtures.withPerformances();
        x.subscribe(2);
        x.subscribe(5);
        x.hold(1, 0);
        x.hold(1, 2);
        x.exchange(1, 0, 1);
        int[] due = {5, 2, 1, 6};
        for (int k = 0; k < 4; k++) {
            Checks.is(due[k], x.subscription(1, k));
        }
        Checks.is(0, x.subscription(0, 3));
        Checks.noIndex(() -> x.subscription(2, 0));
        Checks.noIndex(() -> x.subscription(-1, 4));
        Checks.noArgument(() -> x.subscription(0, 4));
        Checks.noArgument(() -> x.subscription(0, -1));
    }

    private static void partner() {
        TheatreSeasons x = Fixtures.withPerformances();
        Checks.isReal(0.0f, x.partner(0));
        x.sell(0, 7);
        Checks.isReal(18.9f, x.partner(0));
        x.subscribe(1);
        x.hold(0, 1);
        Checks.isReal(70.0f * 30.0f / 100.0f, x.partner(0));
        x.sell(2, 3);
        Checks.isReal(60.0f, x.partner(1));
        x.addProduction(1, 1, 1, 0);
        Checks.isReal(0.0f, x.partner(2));
        Checks.noIndex(() -> x.partner(3));
        Checks.noIndex(() -> x.partner(-1));
    }

    private static void fullness() {
        TheatreSeasons x = Fixtures.withPerformances();
        Checks.isReal(0.0, x.fullness(0));
        x.sell(0, 7);
        x.subscribe(6);
        x.hold(0, 1);
        Checks.isReal(13.0 / 100.0, x.fullness(0));
        x.hold(0, 2);
        Checks.isReal(6.0 / 80.0, x.fullness(1));
        x.setSeats(2, 77);
        Checks.isReal(6.0 / 77.0, x.fullness(1));
        x.addProduction(1, 1, 1, 0);
        Checks.fails(ArithmeticException.class, () -> x.fullness(2));
        Checks.noIndex(() -> x.fullness(3));
        Checks.noIndex(() -> x.fullness(-1));
    }

    private static void reason() {
        TheatreSeasons x = Fixtures.withPerformances();
        Checks.noElement(() -> x.reason(true));
        Checks.noArgument(() -> x.sell(0, 0));
        Checks.noElement(() -> x.reason(false));
        Checks.refused(x, 4, 40, () -> x.sell(0, 41));
        x.sell(0, 1);
        x.undo();
        Checks.noArgument(() -> x.sell(0, 0));
        x.save();
        Checks.refused(x, 7, 0, () -> x.refund(0, 1));
        x.restore();
        Checks.is(7, x.reason(false));
        Checks.is(0, x.reason(true));
    }

    private static void account() {
        TheatreSeasons x = Fixtures.withSeats();
        x.request(0, 5, 5);
        x.setStaff(7);
        x.setRoom(21);
        x.setSeats(1, 61);
        Fixtures.type(x, "abc");
        int taken0 = 9 * (9 + 1) + 7 * 6;
        int taken1 = 20 * 20 + 16 * 5;
        int[] due = {2, 4, 2, 1, 30, 11, 40 + 61 + 80 + 40 - 41, 7, 21, taken0 + taken1, 40, 61, 80, 3, 6};
        for (int k = 0; k < due.length; k++) {
            Checks.is(due[k], x.account(k));
        }
        Checks.noArgument(() -> x.account(15));
        Checks.noArgument(() -> x.account(-1));
    }

    private static void append() {
        TheatreSeasons x = new TheatreSeasons();
        Checks.is(1, x.append(' '));
        Checks.is(2, x.append('~'));
        Checks.noArgument(() -> x.append((char) 31));
        Checks.noArgument(() -> x.append((char) 127));
        Checks.noArgument(() -> x.append((char) 65535));
        for (int k = 2; k < 60; k++) {
            Checks.is(k + 1, x.append('1'));
        }
        Checks.noState(() -> x.append('1'));
        Checks.noArgument(() -> x.append((char) 127));
        Checks.is(60, x.account(13));
        Checks.is(0, x.account(14));
    }

    private static void read() {
        TheatreSeasons x = Fixtures.withPerformances();
        x.subscribe(4);
        Checks.is(1, Fixtures.read(x, "s0x30"));
        Checks.is(10, x.performance(0, 5));
        Checks.is(1, Fixtures.read(x, "r0x05"));
        Checks.is(25, x.performance(0, 3));
        Checks.is(2, Fixtures.read(x, "w0x16!3;w00x1!9"));
        Checks.is(1, x.waiting(0, 0, false));
        Checks.is(3, x.waiting(0, 1, true));
        Checks.is(2, Fixtures.read(x, "h0:2;e0:2>1"));
        Checks.is(2, x.subscription(0, 3));
        Checks.is(1, Fixtures.read(x, "l0:1"));
        Checks.is(0, x.subscription(0, 3));
        Checks.is(2, Fixtures.read(x, "m2@29;m00@1"));
        Checks.is(29, x.performance(2, 2));
        Checks.is(1, x.performance(0, 2));
        Checks.is(0, x.account(13));
        Checks.is(6, x.account(14));
        x.undo();
        Checks.is(4, x.performance(2, 2));
        Checks.is(12, Fixtures.read(x, "s1x1;s1x1;s1x1;s1x1;s1x1;s1x1;s1x1;s1x1;s1x1;s1x1;s1x1;s1x1"));
        Checks.is(12, x.performance(1, 3));
        Checks.is(5, x.undo());
        Checks.is(0, x.performance(1, 3));
    }

    private static void readFails() {
        TheatreSeasons x = Fixtures.withPerformances();
        Checks.noState(() -> Fixtures.read(x, "s0x30;s3x1"));
        Checks.is(0, x.performance(0, 3));
        Checks.is(0, x.account(13));
        Checks.is(5, x.account(14));
        Checks.noElement(() -> x.reason(false));
        Checks.noState(() -> Fixtures.read(x, "s0x0"));
        Checks.noState(() -> Fixtures.read(x, "m0@30"));
        Checks.noState(() -> Fixtures.read(x, "h0:0"));
        Checks.noElement(() -> x.reason(false));
        Checks.noState(() -> Fixtures.read(x, "s0x30;s0x11;s1x1"));
        Checks.is(4, x.reason(false));
        Checks.is(10, x.reason(true));
        Checks.is(0, x.account(4));
        Checks.noState(() -> Fixtures.read(x, "s0x1;s9x1"));
        Checks.is(4, x.reason(false));
        Checks.noElement(x::errorPosition);
        x.setStaff(7);
        x.setStaff(8);
        x.setStaff(9);
        Checks.noState(() -> Fixtures.read(x, "s0x1;m0@6"));
        Checks.is(1, x.reason(false));
        Checks.is(1, x.reason(true));
        Checks.is(6, x.account(14));
        Checks.is(5, x.undo());
        Checks.is(8, x.account(7));
        for (int k = 0; k < 5; k++) {
            x.undo();
        }
        Checks.is(0, x.account(1));
        Checks.is(2, x.account(0));
    }

    private static void errorPosition() {
        TheatreSeasons x = Fixtures.withPerformances();
        String[] texts = {"", "x", "S", "s", "s1", "s1x", "sx", "s123", "s1x234", "s1x2;", "s1x2;;", "s1x2 ",
            "r1!", "w1x2", "w1x2!", "w1x2!34", "w1x2!x", "h1x", "h1:", "l1:222", "e1:2", "e1:2>", "e1:2>345",
            "e1:2:", "m1@", "m1@2@", "m1x", ";", "s1x2;q", " s1x2", "m100@1"};
        int[] due = {0, 0, 0, 1, 2, 3, 1, 3, 5, 5, 5, 4, 2, 4, 5, 6, 5, 2, 3, 5, 4, 5, 7, 4, 3, 4, 2, 0, 5, 0, 3};
        for (int k = 0; k < texts.length; k++) {
            String text = texts[k];
            Checks.noArgument(() -> Fixtures.read(x, text));
            Checks.is(due[k], x.errorPosition());
            Checks.is(0, x.account(13));
        }
        Checks.is(1, Fixtures.read(x, "s1x2"));
        Checks.is(3, x.errorPosition());
        x.undo();
        Checks.is(3, x.errorPosition());
        String full = "s1x1;s1x1;s1x1;s1x1;s1x1;s1x1;s1x1;s1x1;s1x1;s1x1;s1x1;s1x1;";
        Checks.noArgument(() -> Fixtures.read(x, full));
        Checks.is(60, x.errorPosition());
        Checks.is(0, x.performance(1, 3));
    }

    private static void undo() {
        TheatreSeasons x = new TheatreSeasons();
        Checks.noElement(x::undo);
        for (int staff = 7; staff < 15; staff++) {
            x.setStaff(staff);
        }
        Checks.is(6, x.account(14));
        Checks.noArgument(() -> x.setStaff(0));
        Checks.is(6, x.account(14));
        for (int left = 5; left >= 0; left--) {
            Checks.is(left, x.undo());
            Checks.is(8 + left, x.account(7));
        }
        Checks.noElement(x::undo);
        Checks.is(8, x.account(7));
        Fixtures.type(x, "s0");
        x.setRoom(3);
        Fixtures.type(x, "x1");
        x.undo();
        Checks.is(4, x.account(13));
        Checks.is(20, x.account(8));
    }

    /** Each kind of change is remembered, also if nothing is different then, and undone whole. */
    private static void changes() {
        TheatreSeasons x = new TheatreSeasons();
        Runnable[] calls = {
            () -> x.setSeats(0, 40), () -> x.setStaff(6), () -> x.setRoom(20), () -> x.setSeats(1, 61),
            () -> x.setStaff(7), () -> x.setRoom(21), () -> x.addProduction(1, 1, 1, 1), () -> x.setSeats(2, 81),
            () -> x.addProduction(2, 2, 2, 2), () -> x.setRoom(22), () -> x.setStaff(8),
            () -> x.perform(0, 0, 0), () -> x.perform(0, 0, 2), () -> x.move(0, 0), () -> x.sell(0, 5),
            () -> x.refund(0, 2), () -> x.request(0, 1, 1), () -> x.subscribe(2), () -> x.hold(0, 0),
            () -> x.exchange(0, 0, 1), () -> x.release(0, 1), () -> x.cancel(0), () -> Fixtures.read(x, "s0x1"),
        };
        for (Runnable call : calls) {
            if (x.account(14) == 6) {
                x.save();
                x.restore();
                Checks.is(0, x.account(14));
            }
            String before = Fixtures.told(x);
            int remembered = x.account(14);
            call.run();
            String after = Fixtures.told(x);
            Checks.is(remembered + 1, x.account(14));
            Checks.is(remembered, x.undo());
            Checks.tell(before.equals(Fixtures.told(x)), "undo left " + Fixtures.told(x) + ", due is " + before);
            call.run();
            Checks.tell(after.equals(Fixtures.told(x)), "again there is " + Fixtures.told(x) + ", due is " + after);
        }
    }

    private static void save() {
        TheatreSeasons x = new TheatreSeasons();
        Checks.is(0, x.save());
        Checks.is(0, x.account(14));
        TheatreSeasons y = Fixtures.withPerformances();
        y.sell(0, 3);
        Checks.is(3, y.save());
        Checks.is(6, y.account(14));
        y.sell(0, 4);
        y.restore();
        Checks.is(3, y.performance(0, 3));
        y.cancel(0);
        Checks.is(2, y.save());
        y.cancel(0);
        Checks.is(2, y.restore());
    }

    private static void restore() {
        TheatreSeasons x = Fixtures.withSeats();
        Checks.noState(x::restore);
        Checks.is(6, x.account(14));
        x.request(2, 9, 9);
        x.setStaff(9);
        x.save();
        String before = Fixtures.told(x);
        x.cancel(2);
        x.addProduction(1, 1, 1, 1);
        x.subscribe(3);
        x.setSeats(0, 30);
        Fixtures.type(x, "s0");
        Checks.refused(x, 4, 27, () -> x.sell(0, 28));
        Checks.is(4, x.restore());
        Checks.tell(before.equals(Fixtures.told(x)), "restored is " + Fixtures.told(x) + ", due is " + before);
        Checks.is(0, x.account(14));
        Checks.noElement(x::undo);
        Checks.is(2, x.account(13));
        Checks.is(4, x.reason(false));
        x.cancel(0);
        Checks.is(4, x.restore());
        Checks.tell(before.equals(Fixtures.told(x)), "restored again is " + Fixtures.told(x) + ", due is " + before);
        restoreOverOtherRows();
    }

    /** What was saved comes back also where the season has other productions and the like instead. */
    private static void restoreOverOtherRows() {
        TheatreSeasons x = new TheatreSeasons();
        x.setRoom(30);
        x.addProduction(1, 2, 3, 4);
        x.perform(0, 1, 7);
        x.subscribe(2);
        x.request(0, 50, 5);
        x.save();
        String before = Fixtures.told(x);
        for (int k = 0; k < 4; k++) {
            x.undo();
        }
        x.addProduction(5, 6, 7, 8);
        x.perform(0, 2, 8);
        x.subscribe(3);
        x.request(0, 51, 6);
        x.restore();
        Checks.tell(before.equals(Fixtures.told(x)), "restored is " + Fixtures.told(x) + ", due is " + before);
    }
}
