/**
 * Stages, dates, crews, storage, nextDate and bestMove: each at the last case that is allowed and at
 * the first one that is not. A group is named by the sentence that it tests.
 */
public final class PlacingTests {
    private PlacingTests() {
    }

    public static void main(String[] args) {
        Checks.group("on a stage there is at most one performance on a date", PlacingTests::oneOnStage);
        Checks.group("of a production there is at most one on a date", PlacingTests::oneOfProduction);
        Checks.group("reason 1 tells the lowest such performance", PlacingTests::lowestOther);
        Checks.group("reason 1: another one than that which is moved", PlacingTests::movedItself);
        Checks.group("the crews of all performances on a date are at most the staff", PlacingTests::crews);
        Checks.group("reason 2 tells how many more on the first such date", PlacingTests::missingStaff);
        Checks.group("a moved performance leaves its crew's date", PlacingTests::crewsOfMoved);
        Checks.group("the run, both dates included", PlacingTests::runs);
        Checks.group("the run of a single date", PlacingTests::shortestRuns);
        Checks.group("the run from the first to the last date there is", PlacingTests::longestRun);
        Checks.group("a set is on the stage or in the storage", PlacingTests::storedBetween);
        Checks.group("the load is at most the room, setRoom", PlacingTests::roomOfSetRoom);
        Checks.group("the load is at most the room, perform", PlacingTests::roomOfPerform);
        Checks.group("the load is at most the room, move", PlacingTests::roomOfMove);
        Checks.group("the load is at most the room, cancel", PlacingTests::roomOfCancel);
        Checks.group("the sizes of all sets together are the load", PlacingTests::greatestLoad);
        Checks.group("the peak is the greatest load of all dates", PlacingTests::peaks);
        Checks.group("reasons 1 to 3, the first that applies", PlacingTests::orderOfReasons);
        Checks.group("24 performances are looked at ahead of a refusal", PlacingTests::fullAheadOfRefusal);
        Checks.group("move to its own date", PlacingTests::ownDate);
        Checks.group("nextDate looks from the date on, this included", PlacingTests::nextFrom);
        Checks.group("nextDate for none of the reasons 1 to 3", PlacingTests::nextReasons);
        Checks.group("nextDate does not look at how many performances there are", PlacingTests::nextOfFull);
        Checks.group("bestMove, another date than its own", PlacingTests::bestIsAnother);
        Checks.group("bestMove, of several the first one", PlacingTests::bestIsFirst);
        Checks.group("bestMove, the least peak of all dates", PlacingTests::bestIsLeast);
        Checks.group("bestMove, no other date", PlacingTests::noBest);
        Checks.group("on, if there is none", PlacingTests::onNone);
        Checks.end();
    }

    private static TheatreSeasons withSets(int... sizes) {
        TheatreSeasons x = new TheatreSeasons();
        for (int size : sizes) {
            x.addProduction(size, 1, 10, 50);
        }
        return x;
    }

    private static TheatreSeasons withCrews(int... crews) {
        TheatreSeasons x = new TheatreSeasons();
        for (int crew : crews) {
            x.addProduction(1, crew, 10, 50);
        }
        return x;
    }

    private static void checkLoads(TheatreSeasons x, int from, int... due) {
        for (int k = 0; k < due.length; k++) {
            Checks.is(due[k], x.load(from + k));
        }
    }

    // ---- stages and productions

    private static void oneOnStage() {
        TheatreSeasons x = withCrews(1, 1, 1);
        x.perform(0, 1, 10);
        Checks.refused(x, 1, 0, () -> x.perform(1, 1, 10));
        Checks.is(1, x.perform(1, 1, 9));
        Checks.is(2, x.perform(1, 1, 11));
        Checks.is(3, x.perform(1, 0, 10));
        Checks.is(4, x.perform(2, 2, 10));
        Checks.is(5, x.account(1));
    }

    private static void oneOfProduction() {
        TheatreSeasons x = withCrews(1, 1);
        x.perform(0, 1, 10);
        Checks.refused(x, 1, 0, () -> x.perform(0, 0, 10));
        Checks.refused(x, 1, 0, () -> x.perform(0, 2, 10));
        Checks.refused(x, 1, 0, () -> x.perform(0, 1, 10));
        Checks.is(1, x.perform(0, 0, 9));
        Checks.is(2, x.perform(0, 2, 11));
        Checks.is(3, x.account(1));
    }

    private static void lowestOther() {
        TheatreSeasons x = withCrews(1, 1, 1);
        x.perform(2, 2, 3);
        x.perform(0, 0, 5);
        x.perform(1, 1, 5);
        x.perform(2, 2, 5);
        Checks.refused(x, 1, 1, () -> x.perform(0, 1, 5));
        Checks.refused(x, 1, 1, () -> x.perform(1, 0, 5));
        Checks.refused(x, 1, 2, () -> x.perform(2, 1, 5));
        Checks.refused(x, 1, 2, () -> x.perform(1, 2, 5));
        Checks.refused(x, 1, 3, () -> x.move(0, 5));
        Checks.refused(x, 1, 0, () -> x.move(3, 3));
        x.cancel(1);
        Checks.refused(x, 1, 1, () -> x.perform(1, 0, 5));
        Checks.is(3, x.perform(0, 0, 5));
    }

    private static void movedItself() {
        TheatreSeasons x = withCrews(3, 3);
        x.perform(0, 0, 5);
        x.perform(1, 0, 6);
        x.perform(0, 1, 7);
        Checks.is(5, x.move(0, 5));
        Checks.refused(x, 1, 1, () -> x.move(0, 6));
        Checks.refused(x, 1, 2, () -> x.move(0, 7));
        Checks.refused(x, 1, 0, () -> x.move(1, 5));
        Checks.refused(x, 1, 0, () -> x.move(2, 5));
        Checks.is(6, x.move(1, 7));
        Checks.is(5, x.move(0, 6));
    }

    private static void onNone() {
        TheatreSeasons x = withCrews(1);
        x.perform(0, 1, 10);
        Checks.is(0, x.on(1, 10));
        Checks.noElement(() -> x.on(0, 10));
        Checks.noElement(() -> x.on(2, 10));
        Checks.noElement(() -> x.on(1, 9));
        Checks.noElement(() -> x.on(1, 11));
        x.move(0, 11);
        Checks.noElement(() -> x.on(1, 10));
        Checks.is(0, x.on(1, 11));
        x.cancel(0);
        Checks.noElement(() -> x.on(1, 11));
    }

    // ---- crews

    private static void crews() {
        TheatreSeasons x = withCrews(3, 3, 1);
        x.perform(0, 0, 4);
        Checks.is(1, x.perform(1, 1, 4));
        Checks.refused(x, 2, 1, () -> x.perform(2, 2, 4));
        Checks.is(2, x.perform(2, 2, 5));
        Checks.refused(x, 2, 1, () -> x.move(2, 4));
        Checks.is(6, x.setStaff(7));
        Checks.is(5, x.move(2, 4));
        Checks.refused(x, 2, 1, () -> x.setStaff(6));
        Checks.is(7, x.account(7));
        TheatreSeasons y = withCrews(6, 6, 6);
        y.setStaff(20);
        for (int k = 0; k < 3; k++) {
            Checks.is(k, y.perform(k, k, 29));
        }
        Checks.is(20, y.setStaff(18));
        Checks.refused(y, 2, 1, () -> y.setStaff(17));
        Checks.refused(y, 2, 17, () -> y.setStaff(1));
    }

    private static void missingStaff() {
        TheatreSeasons x = withCrews(6, 5, 4);
        x.setStaff(20);
        x.perform(2, 0, 29);
        x.perform(0, 0, 12);
        x.perform(2, 1, 12);
        x.perform(1, 2, 11);
        x.perform(2, 0, 0);
        Checks.refused(x, 2, 1, () -> x.setStaff(9));
        Checks.refused(x, 2, 5, () -> x.setStaff(5));
        Checks.refused(x, 2, 1, () -> x.setStaff(4));
        Checks.refused(x, 2, 1, () -> x.setStaff(3));
        Checks.refused(x, 2, 3, () -> x.setStaff(1));
        Checks.is(20, x.setStaff(10));
        Checks.refused(x, 2, 5, () -> x.perform(1, 2, 12));
        Checks.refused(x, 2, 5, () -> x.move(3, 12));
        Checks.is(11, x.performance(3, 2));
        x.setStaff(14);
        Checks.refused(x, 2, 1, () -> x.perform(1, 2, 12));
        x.setStaff(15);
        Checks.is(5, x.perform(1, 2, 12));
    }

    private static void crewsOfMoved() {
        TheatreSeasons x = withCrews(6, 6);
        x.perform(0, 0, 4);
        x.perform(1, 1, 5);
        Checks.is(4, x.move(0, 4));
        Checks.is(4, x.move(0, 6));
        Checks.is(5, x.move(1, 4));
        Checks.refused(x, 2, 6, () -> x.move(1, 6));
        Checks.is(6, x.move(0, 5));
    }

    // ---- runs and loads

    private static void runs() {
        TheatreSeasons x = withSets(9);
        x.perform(0, 0, 5);
        Checks.is(5, x.production(0, 5));
        Checks.is(5, x.production(0, 6));
        checkLoads(x, 4, 0, 0, 0);
        x.perform(0, 1, 6);
        checkLoads(x, 4, 0, 0, 0, 0);
        Checks.is(0, x.peak());
        x.perform(0, 2, 8);
        checkLoads(x, 4, 0, 0, 0, 9, 0, 0);
        Checks.is(5, x.production(0, 5));
        Checks.is(8, x.production(0, 6));
        Checks.is(3, x.production(0, 4));
        x.cancel(1);
        checkLoads(x, 4, 0, 0, 9, 9, 0, 0);
        x.cancel(0);
        checkLoads(x, 4, 0, 0, 0, 0, 0, 0);
        Checks.is(8, x.production(0, 5));
    }

    private static void shortestRuns() {
        for (int date : new int[] {0, 1, 28, 29}) {
            TheatreSeasons x = withSets(9);
            x.setRoom(0);
            x.perform(0, 0, date);
            Checks.is(date, x.production(0, 5));
            Checks.is(date, x.production(0, 6));
            Checks.is(0, x.peak());
            x.cancel(0);
            Checks.is(-1, x.production(0, 5));
            Checks.is(-1, x.production(0, 6));
        }
    }

    private static void longestRun() {
        TheatreSeasons x = withSets(7);
        x.perform(0, 0, 29);
        x.perform(0, 0, 0);
        Checks.is(0, x.production(0, 5));
        Checks.is(29, x.production(0, 6));
        Checks.is(0, x.load(0));
        Checks.is(0, x.load(29));
        for (int date = 1; date < 29; date++) {
            Checks.is(7, x.load(date));
        }
        Checks.is(29, x.move(0, 28));
        Checks.is(0, x.load(28));
        Checks.is(0, x.load(29));
        Checks.is(7, x.load(27));
    }

    private static void storedBetween() {
        TheatreSeasons x = withSets(4, 3);
        x.perform(0, 0, 10);
        x.perform(0, 2, 14);
        x.perform(1, 1, 11);
        x.perform(1, 1, 15);
        checkLoads(x, 9, 0, 0, 4, 7, 7, 3, 0, 0);
        x.perform(0, 1, 12);
        checkLoads(x, 9, 0, 0, 4, 3, 7, 3, 0, 0);
        x.perform(1, 0, 12);
        checkLoads(x, 9, 0, 0, 4, 0, 7, 3, 0, 0);
        x.move(2, 13);
        checkLoads(x, 9, 0, 0, 4, 0, 4, 3, 0, 0);
    }

    private static void roomOfSetRoom() {
        TheatreSeasons x = withSets(4, 3);
        x.perform(0, 0, 10);
        x.perform(0, 0, 14);
        x.perform(1, 1, 12);
        x.perform(1, 1, 16);
        checkLoads(x, 10, 0, 4, 4, 7, 3, 3, 0);
        Checks.is(20, x.setRoom(7));
        Checks.refused(x, 3, 13, () -> x.setRoom(6));
        Checks.refused(x, 3, 13, () -> x.setRoom(4));
        Checks.refused(x, 3, 11, () -> x.setRoom(3));
        Checks.refused(x, 3, 11, () -> x.setRoom(0));
        Checks.is(7, x.account(8));
        Checks.is(7, x.setRoom(7));
        TheatreSeasons y = withSets(1);
        y.perform(0, 0, 0);
        y.perform(0, 0, 1);
        Checks.is(20, y.setRoom(0));
        y.setRoom(1);
        y.move(1, 2);
        Checks.refused(y, 3, 1, () -> y.setRoom(0));
        y.move(0, 29);
        Checks.refused(y, 3, 3, () -> y.setRoom(0));
        y.move(1, 27);
        Checks.refused(y, 3, 28, () -> y.setRoom(0));
        Checks.is(1, y.setRoom(1));
    }

    private static void roomOfPerform() {
        TheatreSeasons x = withSets(4, 3);
        x.perform(0, 0, 10);
        x.perform(0, 0, 14);
        x.perform(1, 1, 20);
        x.setRoom(6);
        Checks.refused(x, 3, 13, () -> x.perform(1, 1, 12));
        Checks.refused(x, 3, 11, () -> x.perform(1, 1, 9));
        Checks.refused(x, 3, 11, () -> x.perform(1, 1, 0));
        Checks.is(3, x.account(1));
        Checks.is(3, x.perform(1, 1, 13));
        x.setRoom(7);
        Checks.is(4, x.perform(1, 1, 0));
        Checks.is(7, x.peak());
        TheatreSeasons y = withSets(1);
        y.setRoom(0);
        y.perform(0, 0, 10);
        Checks.refused(y, 3, 11, () -> y.perform(0, 0, 12));
        Checks.refused(y, 3, 9, () -> y.perform(0, 0, 8));
        Checks.is(1, y.perform(0, 0, 11));
        Checks.is(2, y.perform(0, 0, 9));
        Checks.refused(y, 3, 12, () -> y.perform(0, 0, 29));
        Checks.refused(y, 3, 1, () -> y.perform(0, 0, 0));
    }

    private static void roomOfMove() {
        TheatreSeasons x = withSets(4);
        x.setRoom(4);
        x.perform(0, 0, 10);
        x.perform(0, 0, 12);
        x.setRoom(4);
        Checks.is(12, x.move(1, 29));
        Checks.is(29, x.move(1, 11));
        x.setRoom(3);
        Checks.refused(x, 3, 11, () -> x.move(1, 12));
        Checks.refused(x, 3, 9, () -> x.move(1, 8));
        Checks.is(11, x.move(1, 9));
        Checks.is(9, x.move(1, 11));
        x.perform(0, 0, 12);
        Checks.refused(x, 3, 11, () -> x.move(1, 13));
        Checks.refused(x, 3, 11, () -> x.move(1, 9));
        Checks.is(10, x.move(0, 13));
        Checks.is(11, x.performance(1, 2));
    }

    private static void roomOfCancel() {
        TheatreSeasons x = withSets(4, 5);
        x.perform(0, 0, 10);
        x.perform(0, 0, 11);
        x.perform(0, 0, 12);
        x.perform(1, 1, 9);
        x.perform(1, 1, 12);
        x.setRoom(8);
        Checks.refused(x, 3, 11, () -> x.cancel(1));
        Checks.is(5, x.account(1));
        x.setRoom(9);
        Checks.is(0, x.cancel(1));
        Checks.is(9, x.load(11));
        TheatreSeasons y = withSets(1);
        y.setRoom(0);
        y.perform(0, 0, 0);
        y.perform(0, 0, 1);
        y.perform(0, 0, 2);
        Checks.refused(y, 3, 1, () -> y.cancel(1));
        Checks.is(0, y.cancel(0));
        Checks.is(0, y.cancel(1));
        Checks.is(0, y.cancel(0));
        Checks.is(0, y.account(1));
    }

    private static void greatestLoad() {
        TheatreSeasons x = withSets(9, 9, 9, 9, 9, 9, 9, 9);
        x.setRoom(99);
        for (int k = 0; k < 8; k++) {
            x.perform(k, k % 3, k / 3);
            x.perform(k, k % 3, 29 - k / 3);
        }
        checkLoads(x, 0, 0, 27, 54, 72, 72);
        checkLoads(x, 26, 72, 54, 27, 0);
        Checks.is(72, x.peak());
        Checks.is(99, x.setRoom(72));
        Checks.refused(x, 3, 3, () -> x.setRoom(71));
        Checks.refused(x, 3, 1, () -> x.setRoom(26));
        Checks.refused(x, 3, 2, () -> x.setRoom(27));
    }

    private static void peaks() {
        TheatreSeasons x = withSets(9, 2);
        Checks.is(0, x.peak());
        x.perform(0, 0, 0);
        Checks.is(0, x.peak());
        x.perform(0, 0, 2);
        Checks.is(9, x.peak());
        Checks.is(9, x.load(1));
        x.move(0, 29);
        x.move(1, 27);
        Checks.is(9, x.peak());
        Checks.is(9, x.load(28));
        x.perform(1, 1, 0);
        x.perform(1, 1, 29);
        Checks.is(11, x.peak());
        x.move(0, 26);
        Checks.is(2, x.peak());
    }

    private static void orderOfReasons() {
        TheatreSeasons x = new TheatreSeasons();
        x.addProduction(9, 6, 1, 0);
        x.addProduction(1, 1, 1, 0);
        x.setRoom(8);
        x.perform(1, 1, 2);
        x.perform(0, 0, 0);
        x.perform(1, 0, 4);
        Checks.refused(x, 1, 2, () -> x.perform(0, 0, 4));
        Checks.refused(x, 2, 1, () -> x.perform(0, 0, 2));
        Checks.refused(x, 3, 1, () -> x.perform(0, 0, 5));
        Checks.is(3, x.perform(0, 1, 1));
        Checks.refused(x, 1, 0, () -> x.move(3, 2));
        Checks.refused(x, 2, 1, () -> x.move(3, 4));
        Checks.refused(x, 3, 1, () -> x.move(3, 3));
        Checks.refused(x, 2, 1, () -> x.move(2, 1));
        Checks.is(1, x.move(3, 1));
    }

    private static void fullAheadOfRefusal() {
        TheatreSeasons x = Fixtures.full();
        Checks.noElement(() -> x.reason(false));
        Checks.noState(() -> x.perform(0, 0, 0));
        x.setStaff(3);
        Checks.noState(() -> x.perform(3, 0, 0));
        Checks.noState(() -> x.perform(0, 0, 29));
        Checks.noElement(() -> x.reason(false));
        x.cancel(23);
        Checks.refused(x, 1, 0, () -> x.perform(0, 0, 0));
        Checks.is(23, x.perform(0, 0, 29));
    }

    private static void ownDate() {
        TheatreSeasons x = new TheatreSeasons();
        x.addProduction(9, 6, 1, 0);
        x.setRoom(9);
        for (int date : new int[] {0, 15, 29}) {
            x.perform(0, 0, date);
        }
        int[] due = {0, 15, 29};
        for (int k = 0; k < 3; k++) {
            Checks.is(due[k], x.move(k, due[k]));
            Checks.is(due[k], x.performance(k, 2));
        }
        Checks.is(3, x.production(0, 4));
        Checks.is(9, x.load(1));
        Checks.is(0, x.load(15));
        Checks.is(6, x.account(14));
    }

    // ---- nextDate

    private static void nextFrom() {
        TheatreSeasons x = withSets(1, 1);
        for (int date = 0; date < 30; date++) {
            Checks.is(date, x.nextDate(0, 0, date));
        }
        x.perform(0, 0, 5);
        x.perform(0, 1, 6);
        x.perform(1, 0, 7);
        x.perform(1, 0, 29);
        Checks.is(4, x.nextDate(0, 0, 4));
        Checks.is(8, x.nextDate(0, 0, 5));
        Checks.is(8, x.nextDate(0, 0, 6));
        Checks.is(8, x.nextDate(0, 0, 7));
        Checks.is(8, x.nextDate(0, 0, 8));
        Checks.is(7, x.nextDate(0, 1, 5));
        Checks.is(28, x.nextDate(0, 0, 28));
        Checks.noElement(() -> x.nextDate(0, 0, 29));
        Checks.is(29, x.nextDate(0, 1, 29));
    }

    private static void nextReasons() {
        TheatreSeasons x = new TheatreSeasons();
        x.addProduction(9, 4, 1, 0);
        x.addProduction(1, 3, 1, 0);
        x.perform(1, 1, 3);
        Checks.is(4, x.nextDate(0, 0, 3));
        x.setStaff(7);
        Checks.is(3, x.nextDate(0, 0, 3));
        x.setRoom(8);
        x.perform(0, 0, 10);
        Checks.is(9, x.nextDate(0, 2, 0));
        Checks.is(11, x.nextDate(0, 2, 10));
        Checks.noElement(() -> x.nextDate(0, 2, 12));
        x.setRoom(9);
        Checks.is(0, x.nextDate(0, 2, 0));
        Checks.is(12, x.nextDate(0, 2, 12));
        Checks.is(29, x.nextDate(0, 2, 29));
        x.setStaff(5);
        Checks.is(4, x.nextDate(0, 2, 3));
        x.setStaff(4);
        x.perform(0, 0, 11);
        Checks.noElement(() -> x.reason(false));
        x.addProduction(1, 5, 1, 1);
        Checks.noElement(() -> x.nextDate(2, 0, 0));
        x.setStaff(5);
        Checks.is(0, x.nextDate(2, 0, 0));
    }

    private static void nextOfFull() {
        TheatreSeasons x = Fixtures.full();
        Checks.noState(() -> x.perform(0, 0, 8));
        Checks.is(8, x.nextDate(0, 0, 0));
        Checks.is(29, x.nextDate(7, 2, 29));
        x.setStaff(4);
        Checks.is(8, x.nextDate(3, 1, 0));
        Checks.is(24, x.account(1));
    }

    // ---- bestMove

    private static void bestIsAnother() {
        TheatreSeasons x = withSets(5);
        x.perform(0, 0, 0);
        Checks.is(1, x.bestMove(0));
        x.move(0, 1);
        Checks.is(0, x.bestMove(0));
        x.move(0, 29);
        Checks.is(0, x.bestMove(0));
        Checks.is(29, x.performance(0, 2));
        x.perform(0, 1, 0);
        Checks.is(1, x.bestMove(0));
        Checks.is(28, x.bestMove(1));
        x.move(0, 1);
        x.perform(0, 0, 2);
        Checks.is(3, x.bestMove(0));
        Checks.is(3, x.bestMove(1));
    }

    private static void bestIsFirst() {
        TheatreSeasons x = withSets(5, 3);
        x.perform(0, 0, 10);
        x.perform(0, 0, 12);
        Checks.is(11, x.bestMove(0));
        Checks.is(9, x.bestMove(1));
        x.perform(0, 0, 20);
        Checks.is(0, x.bestMove(1));
        x.perform(1, 0, 0);
        x.perform(1, 0, 1);
        Checks.is(2, x.bestMove(1));
        Checks.is(0, x.load(1));
    }

    private static void bestIsLeast() {
        TheatreSeasons x = withSets(5, 4);
        x.perform(0, 0, 0);
        x.perform(0, 0, 9);
        x.perform(1, 1, 3);
        x.perform(1, 1, 6);
        Checks.is(9, x.peak());
        Checks.is(8, x.bestMove(0));
        Checks.is(1, x.bestMove(1));
        Checks.is(5, x.bestMove(2));
        Checks.is(2, x.bestMove(3));
        x.move(3, 8);
        Checks.is(8, x.bestMove(0));
        x.setStaff(1);
        Checks.is(10, x.bestMove(0));
        Checks.is(9, x.peak());
        x.move(0, 10);
        Checks.is(4, x.peak());
    }

    private static void noBest() {
        TheatreSeasons x = withSets(1);
        x.setRoom(0);
        for (int date = 0; date < 24; date++) {
            x.perform(0, 0, date);
        }
        Checks.is(24, x.bestMove(0));
        Checks.noElement(() -> x.bestMove(1));
        Checks.noElement(() -> x.bestMove(22));
        Checks.noElement(() -> x.bestMove(23));
        x.setRoom(1);
        Checks.is(24, x.bestMove(1));
        Checks.is(24, x.bestMove(23));
        TheatreSeasons late = withSets(1);
        late.setRoom(0);
        for (int date = 6; date < 30; date++) {
            late.perform(0, 0, date);
        }
        Checks.noElement(() -> late.bestMove(0));
        Checks.noElement(() -> late.bestMove(22));
        Checks.is(5, late.bestMove(23));
        TheatreSeasons y = Fixtures.full();
        y.setStaff(3);
        for (int n = 0; n < 24; n++) {
            Checks.tell(y.bestMove(n) >= 8, "a date with a full crew");
        }
        Checks.noElement(() -> y.reason(false));
    }
}
