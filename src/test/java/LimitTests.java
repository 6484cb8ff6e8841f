/**
 * The ranges of the arguments and the greatest numbers of things: each at the last value that is
 * allowed and at the first one that is not. A group is named by the sentence that it tests.
 */
public final class LimitTests {
    private LimitTests() {
    }

    public static void main(String[] args) {
        ranges();
        greatestNumbers();
        numbersOfThings();
        kinds();
        emptyCases();
        Checks.end();
    }

    private static void ranges() {
        Checks.group("the stages 0 to 2", LimitTests::stages);
        Checks.group("with 40, 60 and 80 seats at first", LimitTests::seatsAtFirst);
        Checks.group("a stage has 10 to 99 seats", LimitTests::seatsOfStage);
        Checks.group("the dates 0 to 29", LimitTests::dates);
        Checks.group("a set with a size from 1 to 9", LimitTests::sizes);
        Checks.group("a crew from 1 to 6", LimitTests::crews);
        Checks.group("a price from 1 to 50", LimitTests::prices);
        Checks.group("a share from 0 to 100", LimitTests::shares);
        Checks.group("the staff, from 1 to 20, at first 6", LimitTests::staff);
        Checks.group("the room, from 0 to 99, at first 20", LimitTests::room);
        Checks.group("the number of seats sold, 1 to 99", LimitTests::soldSeats);
        Checks.group("the number of seats refunded, 1 to 99", LimitTests::refundedSeats);
        Checks.group("a request has a number of seats, 1 to 99", LimitTests::requestedSeats);
        Checks.group("a priority from 0 to 9", LimitTests::priorities);
        Checks.group("a subscription has 1 to 6 seats", LimitTests::subscribedSeats);
        Checks.group("a character with a code from 32 to 126", LimitTests::characters);
    }

    private static void greatestNumbers() {
        Checks.group("at most 8 productions", LimitTests::mostProductions);
        Checks.group("at most 24 performances", LimitTests::mostPerformances);
        Checks.group("at most 20 requests", LimitTests::mostRequests);
        Checks.group("20 requests over several performances", LimitTests::mostRequestsOfAll);
        Checks.group("the 20th request goes ahead of all others", LimitTests::lastRequestFirst);
        Checks.group("at most 10 subscriptions", LimitTests::mostSubscriptions);
        Checks.group("at most 2 exchanges", LimitTests::mostExchanges);
        Checks.group("at most 60 characters", LimitTests::mostCharacters);
    }

    private static void numbersOfThings() {
        Checks.group("no such production", LimitTests::noSuchProduction);
        Checks.group("no such performance", LimitTests::noSuchPerformance);
        Checks.group("no such subscription", LimitTests::noSuchSubscription);
        Checks.group("no such place", LimitTests::noSuchPlace);
        Checks.group("productions are numbered from 0", LimitTests::numberedProductions);
        Checks.group("performances are numbered in the order in which they were made", LimitTests::numberedPerformances);
        Checks.group("when one is cancelled, the later numbers decrease by 1", LimitTests::cancelledNumbers);
        Checks.group("sets of performances and subscriptions up to the last bit", LimitTests::lastBits);
    }

    private static void kinds() {
        Checks.group("production: what is 0 to 7", () ->
                Checks.argumentRange(0, 7, k -> Fixtures.withPerformances().production(0, k)));
        Checks.group("performance: what is 0 to 7", () ->
                Checks.argumentRange(0, 7, k -> Fixtures.withPerformances().performance(0, k)));
        Checks.group("subscription: what is 0 to 3", () ->
                Checks.argumentRange(0, 3, k -> Fixtures.withSeats().subscription(0, k)));
        Checks.group("seats: what is 0 to 2", () ->
                Checks.argumentRange(0, 2, k -> Fixtures.withSeats().seats(4, k)));
        Checks.group("seatsAgain: what is 0 to 2", () ->
                Checks.argumentRange(0, 2, k -> Fixtures.withSeats().seatsAgain(4, k)));
        Checks.group("account is 0 to 14", () ->
                Checks.argumentRange(0, 14, k -> Fixtures.withSeats().account(k)));
        Checks.group("each kind of seats on the empty dates beside", LimitTests::seatKindsOnEmptyDates);
    }

    private static void emptyCases() {
        Checks.group("a season without productions", LimitTests::emptySeason);
        Checks.group("a production without performances", LimitTests::emptyProduction);
        Checks.group("a performance without seats sold, held or waited for", LimitTests::emptyPerformance);
        Checks.group("a performance with no seat free", LimitTests::fullPerformance);
        Checks.group("greatest takings and fullness", LimitTests::greatestTakings);
        Checks.group("four fifths of the price, rounded down", LimitTests::fourFifths);
    }

    // ---- ranges

    private static void stages() {
        Checks.indexRange(0, 2, k -> Fixtures.withPerformances().setSeats(k, 50));
        Checks.indexRange(0, 2, k -> Fixtures.withPerformances().perform(0, k, 20));
        Checks.indexRange(0, 2, k -> Fixtures.withPerformances().nextDate(0, k, 0));
        Checks.indexRange(0, 2, k -> Fixtures.full().on(k, 0));
        TheatreSeasons x = Fixtures.withProductions();
        for (int stage = 0; stage < 3; stage++) {
            Checks.is(stage, x.perform(0, stage, 10 * stage));
            Checks.is(stage, x.performance(stage, 1));
            Checks.is(stage, x.on(stage, 10 * stage));
        }
    }

    private static void seatsAtFirst() {
        TheatreSeasons x = Fixtures.withProductions();
        int[] due = {40, 60, 80};
        for (int stage = 0; stage < 3; stage++) {
            Checks.is(due[stage], x.account(10 + stage));
            x.perform(0, stage, stage);
            Checks.is(due[stage], x.performance(stage, 5));
            Checks.is(due[stage], x.seats(stage, 2));
            Checks.is(due[stage], x.setSeats(stage, 50));
        }
    }

    private static void seatsOfStage() {
        for (int each = 0; each < 3; each++) {
            int stage = each;
            Checks.argumentRange(10, 99, k -> Fixtures.withPerformances().setSeats(stage, k));
            TheatreSeasons x = new TheatreSeasons();
            Checks.is(40 + 20 * stage, x.setSeats(stage, 10));
            Checks.is(10, x.account(10 + stage));
            Checks.is(10, x.setSeats(stage, 99));
            Checks.is(99, x.account(10 + stage));
            Checks.noArgument(() -> x.setSeats(stage, 100));
            Checks.noArgument(() -> x.setSeats(stage, 9));
            Checks.noArgument(() -> x.setSeats(stage, 0));
            Checks.is(99, x.account(10 + stage));
            Checks.is(2, x.account(14));
        }
    }

    private static void dates() {
        Checks.argumentRange(0, 29, k -> Fixtures.withProductions().perform(0, 0, k));
        Checks.argumentRange(0, 29, k -> Fixtures.withPerformances().move(0, k));
        Checks.argumentRange(0, 29, k -> Fixtures.withPerformances().nextDate(0, 0, k));
        Checks.argumentRange(0, 29, k -> Fixtures.withPerformances().load(k));
        Checks.argumentRange(0, 29, k -> Fixtures.withPerformances().seats(k, 0));
        Checks.argumentRange(0, 29, k -> Fixtures.withPerformances().seatsAgain(k, 0));
        TheatreSeasons x = Fixtures.withProductions();
        x.perform(0, 0, 0);
        x.perform(0, 0, 29);
        Checks.argumentRange(0, 29, k -> x.on(0, k));
        Checks.is(0, x.on(0, 0));
        Checks.is(1, x.on(0, 29));
        Checks.is(40, x.seats(0, 2));
        Checks.is(40, x.seats(29, 2));
        Checks.is(0, x.production(0, 5));
        Checks.is(29, x.production(0, 6));
        Checks.is(29, x.move(1, 1));
        Checks.is(1, x.move(1, 29));
        Checks.is(29, x.performance(1, 2));
    }

    private static void sizes() {
        Checks.argumentRange(1, 9, k -> new TheatreSeasons().addProduction(k, 3, 20, 30));
        for (int size : new int[] {1, 9}) {
            TheatreSeasons x = new TheatreSeasons();
            x.addProduction(size, 3, 20, 30);
            Checks.is(size, x.production(0, 0));
            x.perform(0, 0, 0);
            x.perform(0, 0, 2);
            Checks.is(size, x.load(1));
        }
    }

    private static void crews() {
        Checks.argumentRange(1, 6, k -> new TheatreSeasons().addProduction(5, k, 20, 30));
        for (int crew : new int[] {1, 6}) {
            TheatreSeasons x = new TheatreSeasons();
            x.addProduction(5, crew, 20, 30);
            Checks.is(crew, x.production(0, 1));
            x.setStaff(crew);
            Checks.is(0, x.perform(0, 0, 0));
        }
    }

    private static void prices() {
        Checks.argumentRange(1, 50, k -> new TheatreSeasons().addProduction(5, 3, k, 30));
        for (int price : new int[] {1, 50}) {
            TheatreSeasons x = new TheatreSeasons();
            x.addProduction(5, 3, price, 30);
            Checks.is(price, x.production(0, 2));
            x.perform(0, 0, 0);
            x.sell(0, 1);
            Checks.is(price, x.production(0, 7));
        }
    }

    private static void shares() {
        Checks.argumentRange(0, 100, k -> new TheatreSeasons().addProduction(5, 3, 20, k));
        for (int share : new int[] {0, 1, 99, 100}) {
            TheatreSeasons x = new TheatreSeasons();
            x.addProduction(5, 3, 50, share);
            Checks.is(share, x.production(0, 3));
            x.perform(0, 0, 0);
            x.sell(0, 2);
            Checks.isReal(share, x.partner(0));
        }
    }

    private static void staff() {
        Checks.argumentRange(1, 20, k -> new TheatreSeasons().setStaff(k));
        TheatreSeasons x = new TheatreSeasons();
        Checks.is(6, x.account(7));
        Checks.is(6, x.setStaff(1));
        Checks.is(1, x.setStaff(20));
        Checks.noArgument(() -> x.setStaff(21));
        Checks.noArgument(() -> x.setStaff(0));
        Checks.is(20, x.account(7));
    }

    private static void room() {
        Checks.argumentRange(0, 99, k -> new TheatreSeasons().setRoom(k));
        TheatreSeasons x = new TheatreSeasons();
        Checks.is(20, x.account(8));
        Checks.is(20, x.setRoom(0));
        Checks.is(0, x.setRoom(99));
        Checks.noArgument(() -> x.setRoom(100));
        Checks.noArgument(() -> x.setRoom(-1));
        Checks.is(99, x.account(8));
    }

    private static TheatreSeasons withLargeStage() {
        TheatreSeasons x = Fixtures.withPerformances();
        x.setSeats(0, 99);
        return x;
    }

    private static void soldSeats() {
        Checks.argumentRange(1, 99, k -> withLargeStage().sell(0, k));
        TheatreSeasons x = withLargeStage();
        Checks.is(98, x.sell(0, 1));
        Checks.noArgument(() -> x.sell(0, 0));
        Checks.noArgument(() -> x.sell(0, 100));
        Checks.is(1, x.performance(0, 3));
        Checks.is(0, x.sell(0, 98));
        Checks.is(0, withLargeStage().sell(0, 99));
    }

    private static void refundedSeats() {
        TheatreSeasons x = withLargeStage();
        x.sell(0, 99);
        x.save();
        Checks.argumentRange(1, 99, k -> {
            x.restore();
            x.refund(0, k);
        });
        x.restore();
        Checks.noArgument(() -> x.refund(0, 0));
        Checks.noArgument(() -> x.refund(0, 100));
        Checks.is(98, x.refund(0, 1));
        x.restore();
        Checks.is(0, x.refund(0, 99));
    }

    private static void requestedSeats() {
        Checks.argumentRange(1, 99, k -> Fixtures.withPerformances().request(0, k, 5));
        TheatreSeasons x = Fixtures.withPerformances();
        x.request(0, 1, 5);
        x.request(0, 99, 5);
        Checks.noArgument(() -> x.request(0, 0, 5));
        Checks.noArgument(() -> x.request(0, 100, 5));
        Checks.is(2, x.account(3));
        Checks.is(1, x.waiting(0, 0, false));
        Checks.is(99, x.waiting(0, 1, false));
    }

    private static void priorities() {
        Checks.argumentRange(0, 9, k -> Fixtures.withPerformances().request(0, 5, k));
        TheatreSeasons x = Fixtures.withPerformances();
        Checks.is(0, x.request(0, 5, 0));
        Checks.is(0, x.request(0, 5, 9));
        Checks.noArgument(() -> x.request(0, 5, -1));
        Checks.noArgument(() -> x.request(0, 5, 10));
        Checks.is(2, x.account(3));
        Checks.is(9, x.waiting(0, 0, true));
        Checks.is(0, x.waiting(0, 1, true));
    }

    private static void subscribedSeats() {
        Checks.argumentRange(1, 6, k -> new TheatreSeasons().subscribe(k));
        TheatreSeasons x = Fixtures.withPerformances();
        x.subscribe(1);
        x.subscribe(6);
        Checks.noArgument(() -> x.subscribe(0));
        Checks.noArgument(() -> x.subscribe(7));
        Checks.is(2, x.account(2));
        Checks.is(1, x.subscription(0, 0));
        Checks.is(6, x.subscription(1, 0));
        x.hold(0, 0);
        Checks.is(1, x.performance(0, 4));
        x.hold(1, 0);
        Checks.is(7, x.performance(0, 4));
    }

    private static void characters() {
        for (int code = 0; code <= 65535; code++) {
            char character = (char) code;
            TheatreSeasons x = new TheatreSeasons();
            String got = Checks.thrownBy(() -> x.append(character));
            boolean isTaken = code >= 32 && code <= 126;
            if (got.equals("IllegalArgumentException") == isTaken || x.account(13) != (isTaken ? 1 : 0)) {
                Checks.tell(false, "for the code " + code + " threw " + got);
            }
        }
        Checks.is(1, new TheatreSeasons().append((char) 32));
        Checks.is(1, new TheatreSeasons().append((char) 126));
        Checks.noArgument(() -> new TheatreSeasons().append((char) 31));
        Checks.noArgument(() -> new TheatreSeasons().append((char) 127));
    }

    // ---- greatest numbers

    private static void mostProductions() {
        TheatreSeasons x = new TheatreSeasons();
        for (int k = 0; k < 8; k++) {
            Checks.is(k, x.addProduction(1 + k, 1, 1, 0));
        }
        Checks.noState(() -> x.addProduction(1, 1, 1, 0));
        Checks.is(8, x.account(0));
        Checks.is(8, x.production(7, 0));
        Checks.noIndex(() -> x.production(8, 0));
        Checks.is(5, x.undo());
        Checks.is(7, x.addProduction(9, 1, 1, 0));
        Checks.is(9, x.production(7, 0));
    }

    private static void mostPerformances() {
        TheatreSeasons x = Fixtures.withProductions();
        for (int k = 0; k < 24; k++) {
            Checks.is(k, x.perform(0, 0, k));
        }
        Checks.noState(() -> x.perform(0, 0, 24));
        Checks.is(24, x.account(1));
        Checks.is(23, x.performance(23, 2));
        Checks.noIndex(() -> x.performance(24, 0));
        Checks.is(24, x.nextDate(0, 0, 0));
        x.cancel(5);
        Checks.is(23, x.perform(0, 0, 24));
        Checks.noState(() -> x.perform(0, 0, 25));
    }

    private static void mostRequests() {
        TheatreSeasons x = Fixtures.withPerformances();
        x.sell(0, 40);
        for (int k = 0; k < 20; k++) {
            Checks.is(k, x.request(0, 1 + k, 5));
        }
        Checks.refused(x, 8, 20, () -> x.request(0, 1, 9));
        Checks.is(20, x.account(3));
        Checks.is(20, x.performance(0, 6));
        Checks.is(20, x.waiting(0, 19, false));
        x.refund(0, 1);
        Checks.is(19, x.account(3));
        Checks.is(0, x.request(0, 1, 9));
        Checks.refused(x, 8, 20, () -> x.request(0, 1, 9));
    }

    private static void mostRequestsOfAll() {
        TheatreSeasons x = Fixtures.withPerformances();
        for (int k = 0; k < 20; k++) {
            Checks.is(k / 2, x.request(k % 2, 40, 0));
        }
        Checks.refused(x, 8, 20, () -> x.request(2, 1, 0));
        Checks.is(0, x.performance(2, 6));
        x.cancel(1);
        Checks.is(10, x.account(3));
        for (int k = 10; k < 20; k++) {
            Checks.is(k - 10, x.request(1, 40, 0));
        }
        Checks.refused(x, 8, 20, () -> x.request(1, 40, 0));
    }

    private static void lastRequestFirst() {
        TheatreSeasons x = Fixtures.withPerformances();
        for (int k = 0; k < 19; k++) {
            Checks.is(k % 2, x.request(0, 50 + k, k / 2));
        }
        Checks.is(1, x.request(0, 69, 9));
        Checks.is(20, x.performance(0, 6));
        for (int place = 0; place < 20; place++) {
            int k = 18 - place / 2 * 2 + place % 2;
            Checks.is(50 + k, x.waiting(0, place, false));
            Checks.is(k / 2, x.waiting(0, place, true));
        }
        TheatreSeasons y = Fixtures.withPerformances();
        for (int k = 0; k < 19; k++) {
            Checks.is(k, y.request(0, 50 + k, 0));
        }
        Checks.is(0, y.request(0, 99, 1));
        Checks.is(99, y.waiting(0, 0, false));
        Checks.is(68, y.waiting(0, 19, false));
        Checks.is(0, y.waiting(0, 19, true));
    }

    private static void mostSubscriptions() {
        TheatreSeasons x = Fixtures.withPerformances();
        for (int k = 0; k < 10; k++) {
            Checks.is(k, x.subscribe(1 + k % 6));
        }
        Checks.noState(() -> x.subscribe(1));
        Checks.is(10, x.account(2));
        Checks.is(4, x.subscription(9, 0));
        Checks.noIndex(() -> x.subscription(10, 0));
        Checks.is(5, x.undo());
        Checks.is(9, x.subscribe(5));
        Checks.is(5, x.subscription(9, 0));
    }

    private static void mostExchanges() {
        TheatreSeasons x = Fixtures.withPerformances();
        x.subscribe(2);
        x.subscribe(2);
        x.hold(0, 0);
        x.hold(1, 0);
        Checks.is(1, x.exchange(0, 0, 1));
        Checks.is(2, x.exchange(0, 1, 0));
        Checks.refused(x, 6, 2, () -> x.exchange(0, 0, 1));
        Checks.is(2, x.subscription(0, 2));
        Checks.is(1, x.subscription(0, 3));
        Checks.is(1, x.exchange(1, 0, 1));
        x.release(0, 0);
        x.hold(0, 0);
        Checks.refused(x, 6, 2, () -> x.exchange(0, 0, 1));
        x.cancel(0);
        x.hold(0, 0);
        Checks.refused(x, 6, 2, () -> x.exchange(0, 0, 1));
    }

    private static void mostCharacters() {
        TheatreSeasons x = new TheatreSeasons();
        for (int k = 1; k <= 60; k++) {
            Checks.is(k, x.append('s'));
        }
        Checks.noState(() -> x.append('s'));
        Checks.is(60, x.account(13));
        Checks.noArgument(x::read);
        Checks.is(0, x.account(13));
        Checks.is(1, x.append('s'));
    }

    // ---- numbers of things

    private static void noSuchProduction() {
        Checks.indexRange(0, 1, k -> Fixtures.withPerformances().production(k, 0));
        Checks.indexRange(0, 1, k -> Fixtures.withPerformances().perform(k, 0, 20));
        Checks.indexRange(0, 1, k -> Fixtures.withPerformances().nextDate(k, 0, 0));
        Checks.indexRange(0, 1, k -> Fixtures.withPerformances().partner(k));
        Checks.indexRange(0, 1, k -> Fixtures.withPerformances().fullness(k));
        Checks.indexRange(0, 7, k -> Fixtures.full().production(k, 0));
        Checks.indexRange(0, 7, k -> Fixtures.full().nextDate(k, 0, 8));
        Checks.indexRange(0, 7, k -> Fixtures.full().partner(k));
        Checks.indexRange(0, 7, k -> Fixtures.full().fullness(k));
        TheatreSeasons x = new TheatreSeasons();
        Checks.noIndex(() -> x.production(0, 0));
        Checks.noIndex(() -> x.perform(0, 0, 0));
        Checks.noIndex(() -> x.nextDate(0, 0, 0));
        Checks.noIndex(() -> x.partner(0));
        Checks.noIndex(() -> x.fullness(0));
    }

    private static void noSuchPerformance() {
        Checks.indexRange(0, 2, k -> Fixtures.withPerformances().cancel(k));
        Checks.indexRange(0, 2, k -> Fixtures.withPerformances().move(k, 20));
        Checks.indexRange(0, 2, k -> Fixtures.withPerformances().performance(k, 0));
        Checks.indexRange(0, 2, k -> Fixtures.withPerformances().bestMove(k));
        Checks.indexRange(0, 2, k -> Fixtures.withPerformances().sell(k, 1));
        Checks.indexRange(0, 2, k -> Fixtures.withPerformances().request(k, 1, 1));
        Checks.indexRange(0, 2, k -> {
            TheatreSeasons x = Fixtures.withPerformances();
            x.sell(0, 1);
            x.sell(2, 1);
            x.refund(k, 1);
        });
        Checks.indexRange(0, 2, k -> {
            TheatreSeasons x = Fixtures.withPerformances();
            x.request(0, 1, 1);
            x.request(2, 1, 1);
            x.waiting(k, 0, true);
        });
        heldAtNoSuchPerformance();
        noSuchPerformanceOfAll();
    }

    private static void heldAtNoSuchPerformance() {
        Checks.indexRange(0, 2, k -> withSubscription().hold(0, k));
        Checks.indexRange(0, 2, k -> {
            TheatreSeasons x = withSubscription();
            x.hold(0, 0);
            x.hold(0, 2);
            x.release(0, k);
        });
        Checks.indexRange(0, 2, k -> {
            TheatreSeasons x = withSubscription();
            x.hold(0, 0);
            x.hold(0, 2);
            x.exchange(0, k, 1);
        });
        Checks.indexRange(0, 2, k -> {
            TheatreSeasons x = withSubscription();
            x.hold(0, 1);
            x.exchange(0, 1, k);
        });
    }

    private static TheatreSeasons withSubscription() {
        TheatreSeasons x = Fixtures.withPerformances();
        x.subscribe(2);
        return x;
    }

    private static void noSuchPerformanceOfAll() {
        Checks.indexRange(0, 23, k -> Fixtures.full().performance(k, 0));
        Checks.indexRange(0, 23, k -> Fixtures.full().sell(k, 1));
        Checks.indexRange(0, 23, k -> Fixtures.full().cancel(k));
        Checks.indexRange(0, 23, k -> Fixtures.full().bestMove(k));
        Checks.indexRange(0, 23, k -> Fixtures.full().hold(0, k));
        Checks.indexRange(0, 23, k -> Fixtures.full().move(k, 20));
        Checks.indexRange(0, 23, k -> Fixtures.full().waiting(k, 0, false));
        TheatreSeasons x = Fixtures.withProductions();
        x.subscribe(1);
        Checks.noIndex(() -> x.cancel(0));
        Checks.noIndex(() -> x.move(0, 0));
        Checks.noIndex(() -> x.performance(0, 0));
        Checks.noIndex(() -> x.bestMove(0));
        Checks.noIndex(() -> x.sell(0, 1));
        Checks.noIndex(() -> x.refund(0, 1));
        Checks.noIndex(() -> x.request(0, 1, 1));
        Checks.noIndex(() -> x.waiting(0, 0, false));
        Checks.noIndex(() -> x.hold(0, 0));
        Checks.noIndex(() -> x.release(0, 0));
        Checks.noIndex(() -> x.exchange(0, 0, 0));
    }

    private static void noSuchSubscription() {
        Checks.indexRange(0, 1, k -> Fixtures.withSeats().subscription(k, 0));
        Checks.indexRange(0, 1, k -> Fixtures.withSeats().hold(k, 1));
        Checks.indexRange(0, 1, k -> Fixtures.withSeats().release(k, 2));
        Checks.indexRange(0, 1, k -> Fixtures.withSeats().exchange(k, 2, 1));
        Checks.indexRange(0, 9, k -> Fixtures.full().subscription(k, 0));
        Checks.indexRange(0, 9, k -> Fixtures.full().hold(k, 1));
        TheatreSeasons x = Fixtures.withPerformances();
        Checks.noIndex(() -> x.subscription(0, 0));
        Checks.noIndex(() -> x.hold(0, 0));
        Checks.noIndex(() -> x.release(0, 0));
        Checks.noIndex(() -> x.exchange(0, 0, 1));
    }

    private static void noSuchPlace() {
        TheatreSeasons x = Fixtures.full();
        Class<java.util.NoSuchElementException> none = java.util.NoSuchElementException.class;
        Checks.range(0, 18, none, k -> x.waiting(0, k, true));
        Checks.range(0, 18, none, k -> x.waiting(0, k, false));
        Checks.range(0, 0, none, k -> x.waiting(23, k, true));
        Checks.noElement(() -> x.waiting(1, 0, true));
        Checks.noElement(() -> x.waiting(22, 0, false));
        Checks.is(9, x.waiting(0, 0, true));
        Checks.is(0, x.waiting(0, 18, true));
        Checks.is(5, x.waiting(23, 0, true));
    }

    private static void numberedProductions() {
        TheatreSeasons x = new TheatreSeasons();
        for (int k = 0; k < 8; k++) {
            Checks.is(k, x.addProduction(1 + k, 1 + k % 6, 43 + k, 93 + k));
        }
        for (int k = 0; k < 8; k++) {
            Checks.is(1 + k, x.production(k, 0));
            Checks.is(1 + k % 6, x.production(k, 1));
            Checks.is(43 + k, x.production(k, 2));
            Checks.is(93 + k, x.production(k, 3));
        }
    }

    private static void numberedPerformances() {
        TheatreSeasons x = Fixtures.full();
        for (int n = 0; n < 24; n++) {
            Checks.is(n % 8, x.performance(n, 0));
            Checks.is(n % 3, x.performance(n, 1));
            Checks.is(n / 3, x.performance(n, 2));
            Checks.is(n, x.on(n % 3, n / 3));
        }
        x.move(0, 20);
        Checks.is(0, x.on(0, 20));
        Checks.is(1, x.on(1, 0));
    }

    private static void cancelledNumbers() {
        for (int cancelled : new int[] {0, 1, 11, 22, 23}) {
            TheatreSeasons x = Fixtures.full();
            x.hold(0, 22);
            x.hold(0, 0);
            for (int n = 0; n < 24; n++) {
                x.sell(n, n + 1);
            }
            Checks.is(cancelled + 1, x.cancel(cancelled));
            Checks.is(23, x.account(1));
            Checks.noIndex(() -> x.performance(23, 0));
            for (int n = 0; n < 23; n++) {
                int before = n < cancelled ? n : n + 1;
                Checks.is(before + 1, x.performance(n, 3));
                Checks.is(before % 8, x.performance(n, 0));
                Checks.is(before % 3, x.performance(n, 1));
                Checks.is(before / 3, x.performance(n, 2));
            }
            Checks.noElement(() -> x.on(cancelled % 3, cancelled / 3));
            Checks.is(cancelled == 0 ? 1 : cancelled == 23 ? 19 : 20, x.account(3));
            Checks.is(cancelled == 0 ? 0 : 19, x.performance(0, 6));
            Checks.is(cancelled == 23 ? 0 : 1, x.performance(22, 6));
            int zero = cancelled == 0 ? 0 : 1;
            int last = cancelled == 22 ? 0 : cancelled < 22 ? 1 << 21 : 1 << 22;
            Checks.is(zero | last, x.subscription(0, 3));
        }
    }

    private static void lastBits() {
        TheatreSeasons x = Fixtures.full();
        x.hold(9, 23);
        x.hold(9, 0);
        x.hold(0, 23);
        Checks.is(1 << 23 | 1, x.subscription(9, 3));
        Checks.is(2, x.subscription(9, 1));
        Checks.is(1 << 9 | 1, x.performance(23, 7));
        Checks.is(1 << 9, x.performance(0, 7));
        Checks.is(0, x.subscription(8, 3));
        for (int k = 1; k < 23; k++) {
            Checks.is(k + 2, x.hold(9, k));
        }
        Checks.is((1 << 24) - 1, x.subscription(9, 3));
        Checks.is(24, x.subscription(9, 1));
        for (int k = 1; k < 9; k++) {
            x.hold(k, 23);
        }
        Checks.is((1 << 10) - 1, x.performance(23, 7));
        Checks.is(1 + 2 + 3 + 4 + 5 + 6 + 1 + 2 + 3 + 4, x.performance(23, 4));
    }

    // ---- kinds

    private static void seatKindsOnEmptyDates() {
        TheatreSeasons x = Fixtures.withSeats();
        for (int what = 0; what < 3; what++) {
            for (int date : new int[] {0, 1, 3, 5, 29}) {
                Checks.is(0, x.seats(date, what));
                Checks.is(0, x.seatsAgain(date, what));
            }
        }
        TheatreSeasons y = Fixtures.full();
        y.sell(21, 5);
        y.sell(22, 6);
        y.sell(23, 7);
        y.hold(5, 21);
        y.hold(4, 22);
        y.hold(3, 23);
        int[] due = {18, 15, 180 - 33};
        for (int what = 0; what < 3; what++) {
            Checks.is(due[what], y.seats(7, what));
            Checks.is(due[what], y.seatsAgain(7, what));
        }
        Checks.is(180, y.seats(6, 2));
        Checks.is(180, y.seatsAgain(0, 2));
    }

    // ---- empty and full cases

    private static void emptySeason() {
        TheatreSeasons x = new TheatreSeasons();
        Checks.is(0, x.peak());
        for (int date = 0; date < 30; date++) {
            Checks.is(0, x.load(date));
            for (int k = 0; k < 3; k++) {
                int stage = k;
                int day = date;
                Checks.is(0, x.seats(date, k));
                Checks.is(0, x.seatsAgain(date, k));
                Checks.noElement(() -> x.on(stage, day));
            }
        }
        int[] due = {0, 0, 0, 0, 0, 0, 0, 6, 20, 0, 40, 60, 80, 0, 0};
        for (int k = 0; k < due.length; k++) {
            Checks.is(due[k], x.account(k));
        }
        Checks.noElement(() -> x.reason(false));
        Checks.noElement(() -> x.reason(true));
        Checks.noElement(x::errorPosition);
        Checks.noElement(x::undo);
        Checks.noState(x::restore);
        Checks.is(0, x.save());
        Checks.is(0, x.restore());
    }

    private static void emptyProduction() {
        TheatreSeasons x = Fixtures.withPerformances();
        x.addProduction(7, 6, 50, 100);
        Checks.is(0, x.production(2, 4));
        Checks.is(-1, x.production(2, 5));
        Checks.is(-1, x.production(2, 6));
        Checks.is(0, x.production(2, 7));
        Checks.isReal(0.0f, x.partner(2));
        Checks.fails(ArithmeticException.class, () -> x.fullness(2));
        x.perform(2, 0, 9);
        Checks.is(1, x.production(2, 4));
        Checks.is(9, x.production(2, 5));
        Checks.is(9, x.production(2, 6));
        Checks.isReal(0.0, x.fullness(2));
        x.cancel(3);
        Checks.is(-1, x.production(2, 5));
        Checks.is(-1, x.production(2, 6));
        Checks.fails(ArithmeticException.class, () -> x.fullness(2));
    }

    private static void emptyPerformance() {
        TheatreSeasons x = Fixtures.withPerformances();
        int[] due = {1, 2, 4, 0, 0, 80, 0, 0};
        for (int what = 0; what < due.length; what++) {
            Checks.is(due[what], x.performance(2, what));
        }
        Checks.is(0, x.cancel(2));
        Checks.noElement(() -> x.waiting(0, 0, true));
    }

    private static void fullPerformance() {
        TheatreSeasons x = Fixtures.withPerformances();
        x.subscribe(6);
        x.hold(0, 0);
        Checks.is(0, x.sell(0, 34));
        Checks.is(0, x.performance(0, 5));
        Checks.is(0, x.seats(2, 2));
        Checks.is(0, x.seatsAgain(2, 2));
        Checks.isReal(0.4, x.fullness(0));
        x.cancel(1);
        Checks.isReal(1.0, x.fullness(0));
    }

    private static void greatestTakings() {
        TheatreSeasons x = new TheatreSeasons();
        x.addProduction(1, 1, 50, 99);
        for (int stage = 0; stage < 3; stage++) {
            x.setSeats(stage, 99);
        }
        for (int k = 0; k < 24; k++) {
            x.perform(0, k % 3, k);
            x.sell(k, 99);
        }
        Checks.is(24 * 99 * 50, x.production(0, 7));
        Checks.is(24 * 99 * 50, x.account(9));
        Checks.is(24 * 99, x.account(4));
        Checks.is(0, x.account(6));
        Checks.isReal(118800.0f * 99.0f / 100.0f, x.partner(0));
        Checks.isReal(1.0, x.fullness(0));
        x.refund(7, 1);
        Checks.isReal(2375.0 / 2376.0, x.fullness(0));
        Checks.isReal(118750.0f * 99.0f / 100.0f, x.partner(0));
    }

    private static void fourFifths() {
        int[] prices = {1, 2, 3, 4, 5, 6, 9, 10, 49, 50};
        int[] due = {0, 1, 2, 3, 4, 4, 7, 8, 39, 40};
        for (int k = 0; k < prices.length; k++) {
            TheatreSeasons x = new TheatreSeasons();
            x.addProduction(1, 1, prices[k], 50);
            x.perform(0, 0, 0);
            x.subscribe(6);
            x.subscribe(1);
            x.hold(0, 0);
            Checks.is(6 * due[k], x.production(0, 7));
            x.hold(1, 0);
            x.sell(0, 3);
            Checks.is(7 * due[k] + 3 * prices[k], x.production(0, 7));
            Checks.is(7 * due[k] + 3 * prices[k], x.account(9));
        }
    }
}
