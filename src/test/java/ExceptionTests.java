import java.util.NoSuchElementException;
import java.util.function.Consumer;
import java.util.function.Supplier;

/**
 * Which exception is thrown if several apply, and that a call that throws, and one that only answers a
 * question, leave the state unchanged: the season, the input, the history, what was saved, the kept
 * error position.
 */
public final class ExceptionTests {
    private ExceptionTests() {
    }

    public static void main(String[] args) {
        Checks.group("stages, staff, room: the exception documented first", ExceptionTests::orderOfSettings);
        Checks.group("productions: the exception documented first", ExceptionTests::orderOfProductions);
        Checks.group("perform: the exception documented first", ExceptionTests::orderOfPerform);
        Checks.group("move and cancel: the exception documented first", ExceptionTests::orderOfMove);
        Checks.group("questions of dates: the exception documented first", ExceptionTests::orderOfDates);
        Checks.group("seats: the exception documented first", ExceptionTests::orderOfSeats);
        Checks.group("subscriptions: the exception documented first", ExceptionTests::orderOfSubscriptions);
        Checks.group("input: the exception documented first", ExceptionTests::orderOfInput);
        Checks.group("no such thing leaves the state unchanged", ExceptionTests::noSuchThing);
        Checks.group("out of range leaves the state unchanged", ExceptionTests::outOfRange);
        Checks.group("a refusal leaves the state unchanged but for the reason", ExceptionTests::refusals);
        Checks.group("no such element leaves the state unchanged", ExceptionTests::noSuchElement);
        Checks.group("a full season or input leaves the state unchanged", ExceptionTests::fullSeason);
        Checks.group("methods that only answer a question change nothing", ExceptionTests::questions);
        Checks.end();
    }

    // ---- the order

    private static void orderOfSettings() {
        TheatreSeasons x = Fixtures.withSeats();
        Checks.noIndex(() -> x.setSeats(3, 9));
        Checks.noIndex(() -> x.setSeats(-1, 100));
        Checks.noIndex(() -> x.setSeats(3, 20));
        Checks.noArgument(() -> x.setSeats(2, 9));
        Checks.refused(x, 9, 2, () -> x.setSeats(2, 10));
        Checks.noArgument(() -> x.setStaff(0));
        Checks.refused(x, 2, 1, () -> x.setStaff(1));
        Checks.noArgument(() -> x.setRoom(-1));
        Checks.refused(x, 3, 3, () -> x.setRoom(0));
    }

    private static void orderOfProductions() {
        TheatreSeasons x = Fixtures.full();
        Checks.noState(() -> x.addProduction(1, 1, 1, 0));
        Checks.noArgument(() -> x.addProduction(0, 1, 1, 0));
        Checks.noArgument(() -> x.addProduction(10, 1, 1, 0));
        Checks.noArgument(() -> x.addProduction(1, 0, 1, 0));
        Checks.noArgument(() -> x.addProduction(1, 7, 1, 0));
        Checks.noArgument(() -> x.addProduction(1, 1, 0, 0));
        Checks.noArgument(() -> x.addProduction(1, 1, 51, 0));
        Checks.noArgument(() -> x.addProduction(1, 1, 1, -1));
        Checks.noArgument(() -> x.addProduction(1, 1, 1, 101));
        Checks.noIndex(() -> x.production(8, 8));
        Checks.noIndex(() -> x.production(-1, -1));
        Checks.noArgument(() -> x.production(7, 8));
        Checks.noIndex(() -> new TheatreSeasons().fullness(0));
    }

    private static void orderOfPerform() {
        TheatreSeasons x = Fixtures.withPerformances();
        Checks.noIndex(() -> x.perform(2, 0, 30));
        Checks.noIndex(() -> x.perform(-1, 0, -1));
        Checks.noIndex(() -> x.perform(0, 3, 30));
        Checks.noIndex(() -> x.perform(0, -1, -1));
        Checks.noIndex(() -> x.perform(2, 3, 30));
        Checks.noIndex(() -> x.perform(2, 0, 2));
        Checks.noArgument(() -> x.perform(0, 0, 30));
        Checks.refused(x, 1, 0, () -> x.perform(0, 0, 2));
        TheatreSeasons y = Fixtures.full();
        Checks.noIndex(() -> y.perform(8, 0, 0));
        Checks.noIndex(() -> y.perform(0, 3, 30));
        Checks.noArgument(() -> y.perform(0, 0, 30));
        Checks.noArgument(() -> y.perform(0, 0, -1));
        Checks.noState(() -> y.perform(0, 0, 0));
        Checks.noState(() -> y.perform(0, 0, 29));
    }

    private static void orderOfMove() {
        TheatreSeasons x = Fixtures.withPerformances();
        Checks.noIndex(() -> x.move(3, 30));
        Checks.noIndex(() -> x.move(-1, -1));
        Checks.noIndex(() -> x.move(3, 2));
        Checks.noArgument(() -> x.move(0, 30));
        Checks.noIndex(() -> x.performance(3, 8));
        Checks.noIndex(() -> x.performance(-1, -1));
        Checks.noIndex(() -> x.waiting(3, 0, true));
        Checks.noIndex(() -> x.waiting(-1, -1, false));
        Checks.noElement(() -> x.waiting(2, -1, false));
        Checks.noIndex(() -> x.bestMove(3));
        Checks.noIndex(() -> x.cancel(3));
    }

    private static void orderOfDates() {
        TheatreSeasons x = Fixtures.withPerformances();
        Checks.noIndex(() -> x.on(3, 30));
        Checks.noIndex(() -> x.on(-1, 5));
        Checks.noArgument(() -> x.on(0, 30));
        Checks.noElement(() -> x.on(0, 29));
        x.addProduction(1, 6, 1, 1);
        x.setStaff(5);
        Checks.noIndex(() -> x.nextDate(3, 0, 30));
        Checks.noIndex(() -> x.nextDate(0, 3, -1));
        Checks.noIndex(() -> x.nextDate(2, 3, 0));
        Checks.noArgument(() -> x.nextDate(2, 0, 30));
        Checks.noArgument(() -> x.nextDate(2, 0, -1));
        Checks.noElement(() -> x.nextDate(2, 0, 29));
        Checks.noArgument(() -> x.seats(30, 3));
        Checks.noArgument(() -> x.seatsAgain(-1, -1));
    }

    private static void orderOfSeats() {
        TheatreSeasons x = Fixtures.full();
        Checks.noIndex(() -> x.sell(24, 0));
        Checks.noIndex(() -> x.sell(-1, 100));
        Checks.noIndex(() -> x.sell(24, 50));
        Checks.noArgument(() -> x.sell(0, 100));
        Checks.noIndex(() -> x.refund(24, 0));
        Checks.noIndex(() -> x.refund(24, 1));
        Checks.noArgument(() -> x.refund(0, 0));
        Checks.noArgument(() -> x.refund(0, 100));
        Checks.noIndex(() -> x.request(24, 0, 10));
        Checks.noIndex(() -> x.request(-1, 1, 1));
        Checks.noArgument(() -> x.request(0, 0, 1));
        Checks.noArgument(() -> x.request(0, 100, 1));
        Checks.noArgument(() -> x.request(0, 1, 10));
        Checks.noArgument(() -> x.request(0, 1, -1));
        Checks.noElement(() -> x.reason(false));
        Checks.refused(x, 8, 20, () -> x.request(0, 1, 9));
    }

    private static void orderOfSubscriptions() {
        TheatreSeasons x = Fixtures.full();
        Checks.noArgument(() -> x.subscribe(0));
        Checks.noArgument(() -> x.subscribe(7));
        Checks.noState(() -> x.subscribe(1));
        Checks.noIndex(() -> x.subscription(10, 4));
        Checks.noIndex(() -> x.subscription(-1, -1));
        x.sell(0, 40);
        Checks.noIndex(() -> x.hold(10, 0));
        Checks.noIndex(() -> x.hold(0, 24));
        Checks.noIndex(() -> x.release(10, 0));
        Checks.noIndex(() -> x.release(0, 24));
        Checks.noIndex(() -> x.exchange(10, 0, 0));
        Checks.noIndex(() -> x.exchange(0, 24, 0));
        Checks.noIndex(() -> x.exchange(0, 1, 24));
        Checks.noIndex(() -> x.exchange(0, -1, 0));
        Checks.noIndex(() -> x.exchange(0, 1, -1));
        Checks.noElement(() -> x.reason(false));
    }

    private static void orderOfInput() {
        TheatreSeasons x = Fixtures.withPerformances();
        Fixtures.type(x, "s".repeat(60));
        Checks.noArgument(() -> x.append((char) 31));
        Checks.noArgument(() -> x.append((char) 127));
        Checks.noState(() -> x.append('s'));
        Checks.noArgument(x::read);
        Checks.noArgument(() -> Fixtures.read(x, "s9x0;"));
        Checks.noArgument(() -> Fixtures.read(x, "s0x99;s"));
        Checks.noElement(() -> x.reason(false));
    }

    // ---- the state

    private interface Call extends Consumer<TheatreSeasons> {
    }

    /**
     * A season in which all that an object holds is there: an input, a kept position, something saved.
     * Its performances: 0 on stage 0 on 2, 1 on stage 2 on 4, 2 on stage 0 on 4, 3 on stage 0 on 9, 4 on
     * stage 1 on 29; 1 and 3 of production 1, the others of 0.
     */
    private static TheatreSeasons rich() {
        TheatreSeasons x = Fixtures.withSeats();
        x.request(0, 38, 4);
        x.request(0, 1, 4);
        x.request(2, 70, 4);
        x.save();
        x.setStaff(7);
        x.setSeats(1, 61);
        x.cancel(1);
        x.perform(1, 0, 9);
        x.perform(0, 1, 29);
        Checks.refused(x, 7, 0, () -> x.refund(3, 99));
        Checks.noArgument(() -> Fixtures.read(x, "s0x"));
        Fixtures.type(x, "s0x1");
        return x;
    }

    /** Little room and staff: production 0 on stage 0 on 0, 1 and 2, of 1 there are 0 on 3 and 4 on 5. */
    private static TheatreSeasons tight() {
        TheatreSeasons x = new TheatreSeasons();
        x.addProduction(9, 6, 1, 0);
        x.addProduction(1, 1, 1, 0);
        x.setRoom(8);
        x.save();
        x.perform(1, 1, 3);
        for (int date = 0; date < 3; date++) {
            x.perform(0, 0, date);
        }
        x.perform(1, 0, 5);
        Fixtures.type(x, "s1x2;");
        return x;
    }

    /** As many as there may be of all, and a subscription 3 that has made 2 exchanges. */
    private static TheatreSeasons full() {
        TheatreSeasons x = Fixtures.full();
        x.hold(3, 0);
        x.exchange(3, 0, 1);
        x.exchange(3, 1, 0);
        Fixtures.type(x, "s1x2;".repeat(11) + "s1x20");
        return x;
    }

    /** 24 performances without a gap, and no room. */
    private static TheatreSeasons fixed() {
        TheatreSeasons x = new TheatreSeasons();
        x.addProduction(1, 1, 1, 1);
        x.addProduction(2, 2, 2, 2);
        x.setRoom(0);
        for (int date = 0; date < 24; date++) {
            x.perform(0, 0, date);
        }
        return x;
    }

    private static void unchanged(Supplier<TheatreSeasons> made, Class<? extends RuntimeException> kind, Call... calls) {
        for (int k = 0; k < calls.length; k++) {
            Call call = calls[k];
            TheatreSeasons due = made.get();
            TheatreSeasons got = made.get();
            Checks.fails(kind, () -> call.accept(got));
            if (kind == UnsupportedOperationException.class) {
                Checks.same(Fixtures.told(due), Fixtures.told(got), "behind call " + k);
                takeSameReason(due, got);
            }
            Fixtures.checkSame(due, got, "behind call " + k);
        }
    }

    private static void takeSameReason(TheatreSeasons one, TheatreSeasons other) {
        Checks.refused(one, 7, 0, () -> one.refund(0, 1));
        Checks.refused(other, 7, 0, () -> other.refund(0, 1));
    }

    private static void noSuchThing() {
        unchanged(ExceptionTests::rich, IndexOutOfBoundsException.class,
            x -> x.setSeats(3, 20), x -> x.production(2, 0), x -> x.perform(2, 0, 0), x -> x.perform(0, 3, 0),
            x -> x.cancel(5), x -> x.move(5, 0), x -> x.performance(5, 0), x -> x.on(3, 0),
            x -> x.nextDate(2, 0, 0), x -> x.nextDate(0, 3, 0), x -> x.bestMove(5), x -> x.sell(5, 1),
            x -> x.refund(5, 1), x -> x.request(5, 1, 1), x -> x.waiting(5, 0, true), x -> x.hold(2, 0),
            x -> x.hold(0, 5), x -> x.release(2, 1), x -> x.release(0, 5), x -> x.exchange(2, 1, 0),
            x -> x.exchange(0, 5, 0), x -> x.exchange(0, 1, 5), x -> x.subscription(2, 0), x -> x.partner(2),
            x -> x.fullness(2));
    }

    private static void outOfRange() {
        unchanged(ExceptionTests::rich, IllegalArgumentException.class,
            x -> x.setSeats(0, 9), x -> x.setSeats(0, 100), x -> x.setStaff(0), x -> x.setStaff(21),
            x -> x.setRoom(-1), x -> x.setRoom(100), x -> x.addProduction(0, 1, 1, 1),
            x -> x.addProduction(1, 7, 1, 1), x -> x.addProduction(1, 1, 51, 1),
            x -> x.addProduction(1, 1, 1, 101), x -> x.production(0, 8), x -> x.perform(0, 0, 30),
            x -> x.move(0, 30), x -> x.performance(0, 8), x -> x.on(0, 30), x -> x.nextDate(0, 0, 30),
            x -> x.load(30), x -> x.sell(0, 0), x -> x.sell(0, 100), x -> x.refund(1, 0), x -> x.refund(1, 100),
            x -> x.request(0, 0, 1), x -> x.request(0, 100, 1), x -> x.request(0, 1, 10), x -> x.seats(30, 0),
            x -> x.seats(0, 3), x -> x.seatsAgain(30, 0), x -> x.seatsAgain(0, 3), x -> x.subscribe(0),
            x -> x.subscribe(7), x -> x.subscription(0, 4), x -> x.account(15), x -> x.append((char) 127));
    }

    private static void refusals() {
        unchanged(ExceptionTests::rich, UnsupportedOperationException.class,
            x -> x.setSeats(2, 24), x -> x.setStaff(4), x -> x.setRoom(4), x -> x.perform(0, 0, 4),
            x -> x.perform(1, 0, 2), x -> x.move(0, 4), x -> x.move(3, 4), x -> x.sell(0, 38),
            x -> x.refund(1, 21), x -> x.hold(0, 1), x -> x.release(0, 0), x -> x.exchange(0, 0, 2),
            x -> x.exchange(1, 0, 1));
        unchanged(ExceptionTests::tight, UnsupportedOperationException.class,
            x -> x.setStaff(5), x -> x.setRoom(0), x -> x.perform(0, 0, 3), x -> x.perform(0, 0, 4),
            x -> x.move(1, 3), x -> x.move(3, 4), x -> x.move(3, 5), x -> x.cancel(2));
        unchanged(ExceptionTests::full, UnsupportedOperationException.class,
            x -> x.exchange(3, 0, 1), x -> x.request(1, 1, 1), x -> x.sell(1, 61), x -> x.hold(3, 0));
    }

    private static void noSuchElement() {
        unchanged(ExceptionTests::rich, NoSuchElementException.class,
            x -> x.on(0, 28), x -> x.nextDate(1, 1, 29), x -> x.waiting(0, 2, true),
            x -> x.waiting(0, -1, false), x -> x.waiting(3, 0, true));
        unchanged(ExceptionTests::fixed, NoSuchElementException.class,
            x -> x.bestMove(5), x -> x.nextDate(0, 0, 25), x -> x.reason(false), x -> x.reason(true),
            x -> x.errorPosition());
        unchanged(TheatreSeasons::new, NoSuchElementException.class, x -> x.undo(), x -> x.on(2, 29));
        unchanged(Fixtures::withProductions, ArithmeticException.class, x -> x.fullness(0), x -> x.fullness(1));
    }

    private static void fullSeason() {
        unchanged(ExceptionTests::full, IllegalStateException.class,
            x -> x.addProduction(1, 1, 1, 1), x -> x.perform(0, 0, 29), x -> x.perform(0, 0, 0),
            x -> x.subscribe(1), x -> x.append('s'), x -> x.restore());
    }

    private static void questions() {
        Call[] calls = {
            Fixtures::toldWhole, x -> x.production(1, 7), x -> x.performance(1, 7), x -> x.on(1, 29),
            x -> x.nextDate(0, 0, 0), x -> x.nextDate(1, 2, 29), x -> x.bestMove(0), x -> x.bestMove(4),
            x -> x.load(5), x -> x.peak(), x -> x.waiting(0, 1, true), x -> x.waiting(1, 0, false),
            x -> x.seats(4, 2), x -> x.seatsAgain(4, 2), x -> x.subscription(1, 3), x -> x.partner(0),
            x -> x.fullness(1), x -> x.reason(false), x -> x.reason(true), x -> x.errorPosition(),
            x -> x.account(6), x -> x.account(9), x -> x.account(14),
        };
        for (int k = 0; k < calls.length; k++) {
            TheatreSeasons due = rich();
            TheatreSeasons got = rich();
            calls[k].accept(got);
            calls[k].accept(got);
            Fixtures.checkSame(due, got, "behind question " + k);
        }
    }
}
