/** Changes, undo, save and restore, and the reason that is kept. A group is named by its sentence. */
public final class HistoryTests {
    private HistoryTests() {
    }

    public static void main(String[] args) {
        Checks.group("at most 6 changes", HistoryTests::sixChanges);
        Checks.group("the oldest one is forgotten for good", HistoryTests::oldestForgotten);
        Checks.group("no change is remembered", HistoryTests::noChange);
        Checks.group("a change also if nothing is different then", HistoryTests::nothingDifferent);
        Checks.group("what throws is no change", HistoryTests::throwingIsNoChange);
        Checks.group("what throws forgets no change", HistoryTests::throwingForgetsNothing);
        Checks.group("questions, append, save and undo are no changes", HistoryTests::noChanges);
        Checks.group("read is one change", HistoryTests::readIsOne);
        Checks.group("undo and then another change", HistoryTests::changeAfterUndo);
        Checks.group("the object remembers everything", HistoryTests::rememberedAll);
        Checks.group("rows that were used again come back", HistoryTests::usedAgain);
        Checks.group("except the reason, the input, the error position and what was saved", HistoryTests::notRemembered);
        Checks.group("if nothing was saved", HistoryTests::nothingSaved);
        Checks.group("what was saved before is replaced", HistoryTests::savedReplaced);
        Checks.group("it stays saved", HistoryTests::staysSaved);
        Checks.group("restore forgets all changes", HistoryTests::restoreForgets);
        Checks.group("save and restore return the number of performances", HistoryTests::savedPerformances);
        Checks.group("save takes all that the history remembers", HistoryTests::savedAll);
        Checks.group("the reason that was kept last", HistoryTests::lastReason);
        Checks.group("no reason without a refusal", HistoryTests::noReason);
        Checks.end();
    }

    private static TheatreSeasons withStaffChanges(int changes) {
        TheatreSeasons x = new TheatreSeasons();
        for (int k = 1; k <= changes; k++) {
            x.setStaff(6 + k);
        }
        return x;
    }

    // ---- changes and undo

    private static void sixChanges() {
        for (int changes = 0; changes <= 14; changes++) {
            TheatreSeasons x = withStaffChanges(changes);
            int remembered = Math.min(changes, 6);
            Checks.is(remembered, x.account(14));
            for (int undone = 1; undone <= remembered; undone++) {
                Checks.is(remembered - undone, x.undo());
                Checks.is(6 + changes - undone, x.account(7));
                Checks.is(remembered - undone, x.account(14));
            }
            Checks.noElement(x::undo);
            Checks.is(6 + changes - remembered, x.account(7));
        }
    }

    private static void oldestForgotten() {
        TheatreSeasons x = withStaffChanges(7);
        for (int left = 5; left >= 0; left--) {
            Checks.is(left, x.undo());
        }
        Checks.is(7, x.account(7));
        Checks.noElement(x::undo);
        x.setStaff(20);
        Checks.is(1, x.account(14));
        Checks.is(0, x.undo());
        Checks.is(7, x.account(7));
        Checks.noElement(x::undo);
    }

    private static void noChange() {
        TheatreSeasons x = new TheatreSeasons();
        Checks.noElement(x::undo);
        Checks.noElement(x::undo);
        x.setStaff(7);
        Checks.is(0, x.undo());
        Checks.noElement(x::undo);
        Checks.is(6, x.account(7));
    }

    private static void nothingDifferent() {
        TheatreSeasons x = Fixtures.withPerformances();
        for (int k = 0; k < 5; k++) {
            x.undo();
        }
        Checks.is(0, x.account(14));
        x.setSeats(1, 60);
        Checks.is(1, x.account(14));
        x.setStaff(6);
        Checks.is(2, x.account(14));
        x.setRoom(20);
        Checks.is(3, x.account(14));
        TheatreSeasons y = Fixtures.withProductions();
        y.perform(0, 0, 3);
        y.move(0, 3);
        Checks.is(4, y.account(14));
        Fixtures.read(y, "m0@3;m0@03");
        Checks.is(5, y.account(14));
        Fixtures.read(y, "s0x1;r0x1");
        Checks.is(6, y.account(14));
        Checks.is(5, y.undo());
        Checks.is(4, y.undo());
        Checks.is(3, y.undo());
        Checks.is(1, y.account(1));
        Checks.is(2, y.undo());
        Checks.is(0, y.account(1));
    }

    private static Runnable[] failingCalls(TheatreSeasons x) {
        return new Runnable[] {
            () -> x.setSeats(3, 20), () -> x.setSeats(0, 9), () -> x.setSeats(2, 24), () -> x.setStaff(21),
            () -> x.setStaff(1), () -> x.setRoom(100), () -> x.setRoom(0), () -> x.addProduction(0, 1, 1, 1),
            () -> x.perform(2, 0, 0), () -> x.perform(0, 0, 30), () -> x.perform(0, 0, 4), () -> x.cancel(4),
            () -> x.move(4, 0), () -> x.move(0, 30), () -> x.move(0, 4), () -> x.sell(4, 1), () -> x.sell(0, 0),
            () -> x.sell(0, 99), () -> x.refund(4, 1), () -> x.refund(1, 0), () -> x.refund(1, 99),
            () -> x.request(4, 1, 1), () -> x.request(0, 0, 1), () -> x.request(0, 1, 10), () -> x.subscribe(7),
            () -> x.hold(2, 0), () -> x.hold(0, 4), () -> x.hold(0, 2), () -> x.release(2, 0),
            () -> x.release(0, 0), () -> x.exchange(2, 0, 1), () -> x.exchange(0, 0, 1), x::read,
            () -> Fixtures.read(x, "s0x1;s0x99"), () -> Fixtures.read(x, "s0x1;"), () -> Fixtures.read(x, "s9x1"),
        };
    }

    private static void throwingIsNoChange() {
        TheatreSeasons x = Fixtures.withSeats();
        x.save();
        x.restore();
        x.setStaff(6);
        x.setRoom(20);
        x.setSeats(1, 60);
        Checks.is(3, x.account(14));
        String before = Fixtures.told(x);
        for (Runnable call : failingCalls(x)) {
            Checks.tell(!Checks.thrownBy(call).equals("nothing"), "a call that should throw");
            Checks.is(3, x.account(14));
        }
        Checks.same(before, Fixtures.told(x), "after calls that throw");
    }

    private static void throwingForgetsNothing() {
        TheatreSeasons due = Fixtures.withSeats();
        TheatreSeasons got = Fixtures.withSeats();
        Checks.is(6, got.account(14));
        for (Runnable call : failingCalls(got)) {
            Checks.tell(!Checks.thrownBy(call).equals("nothing"), "a call that should throw");
            Checks.is(6, got.account(14));
        }
        for (int left = 5; left >= 0; left--) {
            Checks.is(left, due.undo());
            Checks.is(left, got.undo());
            Checks.same(Fixtures.told(due), Fixtures.told(got), "undone");
        }
        Checks.noElement(got::undo);
    }

    private static void noChanges() {
        TheatreSeasons x = Fixtures.withProductions();
        x.perform(0, 0, 3);
        Fixtures.toldWhole(x);
        x.nextDate(0, 0, 0);
        x.bestMove(0);
        x.on(0, 3);
        x.append('s');
        x.save();
        Checks.is(3, x.account(14));
        Checks.is(2, x.undo());
        x.save();
        Checks.is(2, x.account(14));
        Checks.is(1, x.undo());
    }

    private static void readIsOne() {
        TheatreSeasons x = Fixtures.withProductions();
        x.perform(0, 0, 3);
        Checks.is(3, x.account(14));
        Fixtures.read(x, "s0x1;s0x1;w0x1!1;m0@5;r0x1");
        Checks.is(4, x.account(14));
        Checks.is(2, x.performance(0, 3));
        Checks.is(3, x.undo());
        Checks.is(0, x.performance(0, 3));
        Checks.is(0, x.performance(0, 6));
        Checks.is(3, x.performance(0, 2));
        for (int k = 0; k < 9; k++) {
            Fixtures.read(x, "s0x2;r0x1");
        }
        Checks.is(6, x.account(14));
        for (int k = 0; k < 6; k++) {
            x.undo();
        }
        Checks.is(3, x.performance(0, 3));
        Checks.noElement(x::undo);
    }

    private static void changeAfterUndo() {
        TheatreSeasons x = withStaffChanges(9);
        Checks.is(5, x.undo());
        Checks.is(4, x.undo());
        Checks.is(3, x.undo());
        x.setRoom(1);
        x.setRoom(2);
        Checks.is(5, x.account(14));
        x.setRoom(3);
        x.setRoom(4);
        Checks.is(6, x.account(14));
        int[] rooms = {3, 2, 1, 20, 20, 20};
        int[] staffs = {12, 12, 12, 12, 11, 10};
        for (int k = 0; k < 6; k++) {
            Checks.is(5 - k, x.undo());
            Checks.is(rooms[k], x.account(8));
            Checks.is(staffs[k], x.account(7));
        }
        Checks.noElement(x::undo);
    }

    private static void rememberedAll() {
        TheatreSeasons x = Fixtures.full();
        x.hold(3, 5);
        x.exchange(3, 5, 6);
        x.sell(6, 7);
        x.save();
        x.restore();
        String before = Fixtures.told(x);
        x.cancel(0);
        x.setSeats(1, 61);
        x.setStaff(20);
        x.setRoom(98);
        x.exchange(3, 5, 4);
        x.perform(0, 2, 29);
        Checks.is(6, x.account(14));
        for (int k = 0; k < 6; k++) {
            x.undo();
        }
        Checks.same(before, Fixtures.told(x), "undone");
        Checks.is(20, x.account(3));
        Checks.is(9, x.waiting(0, 0, true));
    }

    /** One production, performance, subscription and request; each number of these depends on k. */
    private static void fill(TheatreSeasons x, int k) {
        x.addProduction(1 + k, 2 + k, 3 + k, 4 + k);
        x.perform(0, k % 3, k);
        x.subscribe(1 + k);
        x.request(0, 50 + k, k);
    }

    private static void usedAgain() {
        TheatreSeasons x = new TheatreSeasons();
        fill(x, 4);
        x.save();
        String saved = Fixtures.told(x);
        String[] before = new String[5];
        for (int k = 4; k > 0; k--) {
            Checks.is(k - 1, x.undo());
            before[k] = Fixtures.told(x);
        }
        fill(x, 2);
        x.restore();
        Checks.same(saved, Fixtures.told(x), "restored");
        TheatreSeasons y = new TheatreSeasons();
        fill(y, 4);
        for (int k = 4; k > 0; k--) {
            y.undo();
            Checks.same(before[k], Fixtures.told(y), "undone");
        }
        Checks.same(Fixtures.told(new TheatreSeasons()), Fixtures.told(y), "undone");
        fill(y, 3);
        Checks.is(4, y.production(0, 0));
        Checks.is(0, y.performance(0, 3));
        Checks.is(0, y.subscription(0, 3));
        Checks.is(4, y.subscription(0, 0));
    }

    private static void notRemembered() {
        TheatreSeasons x = Fixtures.withPerformances();
        x.setStaff(7);
        x.save();
        Fixtures.type(x, "s0x");
        Checks.noArgument(x::read);
        Checks.refused(x, 4, 40, () -> x.sell(0, 41));
        x.setStaff(8);
        Fixtures.type(x, "s0x");
        x.setStaff(9);
        Checks.refused(x, 4, 60, () -> x.sell(1, 61));
        x.append('1');
        x.undo();
        Checks.keeps(x, 4, 60);
        Checks.is(4, x.account(13));
        Checks.is(3, x.errorPosition());
        x.undo();
        x.undo();
        Checks.keeps(x, 4, 60);
        Checks.is(4, x.account(13));
        Checks.is(6, x.account(7));
        Checks.is(1, x.read());
        Checks.is(1, x.performance(0, 3));
        x.append('r');
        Checks.is(3, x.restore());
        Checks.is(7, x.account(7));
        Checks.is(0, x.performance(0, 3));
        Checks.is(1, x.account(13));
        Checks.is(3, x.errorPosition());
        Checks.keeps(x, 4, 60);
    }

    // ---- save and restore

    private static void nothingSaved() {
        TheatreSeasons x = Fixtures.withPerformances();
        Checks.noState(x::restore);
        Checks.is(5, x.account(14));
        Checks.is(3, x.account(1));
        Checks.is(4, x.undo());
        TheatreSeasons y = new TheatreSeasons();
        Checks.is(0, y.save());
        y.setStaff(7);
        Checks.is(0, y.restore());
        Checks.is(6, y.account(7));
        Checks.is(0, y.account(14));
    }

    private static void savedReplaced() {
        TheatreSeasons x = Fixtures.withPerformances();
        Checks.is(3, x.save());
        x.cancel(0);
        Checks.is(2, x.save());
        x.cancel(0);
        Checks.is(2, x.restore());
        Checks.is(2, x.account(1));
        Checks.is(6, x.performance(0, 2));
    }

    private static void staysSaved() {
        TheatreSeasons x = Fixtures.withPerformances();
        x.save();
        String saved = Fixtures.told(x);
        for (int k = 0; k < 3; k++) {
            x.sell(0, 1 + k);
            x.cancel(1);
            x.setStaff(9 + k);
            Checks.is(3, x.restore());
            Checks.same(saved, Fixtures.told(x), "restored");
        }
        x.setStaff(15);
        x.undo();
        Checks.same(saved, Fixtures.told(x), "undone");
        for (int k = 0; k < 8; k++) {
            x.setRoom(30 + k);
        }
        x.undo();
        Checks.is(3, x.restore());
        Checks.same(saved, Fixtures.told(x), "restored");
    }

    private static void restoreForgets() {
        TheatreSeasons x = withStaffChanges(6);
        x.save();
        Checks.is(6, x.account(14));
        x.restore();
        Checks.is(0, x.account(14));
        Checks.noElement(x::undo);
        x.setStaff(20);
        Checks.is(1, x.account(14));
        Checks.is(0, x.undo());
        Checks.is(12, x.account(7));
        Checks.noElement(x::undo);
    }

    private static void savedPerformances() {
        TheatreSeasons x = Fixtures.full();
        Checks.is(24, x.save());
        Checks.is(24, x.restore());
        x.cancel(23);
        Checks.is(24, x.restore());
        Checks.is(24, x.account(1));
        TheatreSeasons y = new TheatreSeasons();
        Checks.is(0, y.save());
        y.addProduction(1, 1, 1, 1);
        y.perform(0, 0, 0);
        Checks.is(0, y.restore());
        Checks.is(0, y.account(1));
        Checks.is(0, y.account(0));
    }

    private static void savedAll() {
        TheatreSeasons x = Fixtures.full();
        x.hold(9, 23);
        x.hold(9, 22);
        x.exchange(9, 22, 21);
        x.sell(23, 11);
        x.setSeats(0, 41);
        x.setSeats(1, 62);
        x.setSeats(2, 83);
        x.setStaff(11);
        x.setRoom(77);
        x.save();
        String saved = Fixtures.told(x);
        for (int k = 23; k >= 0; k--) {
            x.cancel(k);
        }
        x.setSeats(0, 10);
        x.setSeats(1, 10);
        x.setSeats(2, 10);
        x.setStaff(1);
        x.setRoom(0);
        Checks.is(24, x.restore());
        Checks.same(saved, Fixtures.told(x), "restored");
        Checks.is(41, x.account(10));
        Checks.is(11, x.account(7));
        Checks.is(77, x.account(8));
        Checks.is(1, x.subscription(9, 2));
        Checks.is(50, x.waiting(0, 18, false));
    }

    // ---- the reason

    private static void lastReason() {
        TheatreSeasons x = Fixtures.withPerformances();
        Checks.refused(x, 4, 40, () -> x.sell(0, 41));
        Checks.refused(x, 7, 0, () -> x.refund(0, 41));
        Checks.refused(x, 1, 1, () -> x.move(0, 6));
        x.sell(0, 1);
        Checks.keeps(x, 1, 1);
        Checks.noArgument(() -> x.move(0, 30));
        Checks.noIndex(() -> x.move(3, 6));
        Checks.noElement(() -> x.on(0, 6));
        Checks.noState(x::restore);
        Checks.noState(() -> Fixtures.read(x, "s3x1"));
        Checks.noArgument(() -> Fixtures.read(x, "s3"));
        Checks.keeps(x, 1, 1);
        Checks.refused(x, 2, 1, () -> x.setStaff(1));
        Checks.refused(x, 3, 3, () -> x.setRoom(4));
        x.sell(0, 20);
        Checks.refused(x, 9, 0, () -> x.setSeats(0, 20));
        x.undo();
        Checks.keeps(x, 9, 0);
    }

    private static void noReason() {
        TheatreSeasons x = Fixtures.withPerformances();
        Checks.noElement(() -> x.reason(false));
        Checks.noElement(() -> x.reason(true));
        Checks.noArgument(() -> x.sell(0, 0));
        Checks.noIndex(() -> x.sell(3, 1));
        x.move(0, 29);
        Checks.noElement(() -> x.nextDate(0, 0, 29));
        Checks.noElement(() -> x.on(0, 2));
        x.setStaff(5);
        Checks.noElement(() -> x.reason(false));
        Checks.noElement(() -> x.reason(true));
        TheatreSeasons y = Fixtures.full();
        Checks.noState(() -> y.perform(0, 0, 29));
        Checks.noState(() -> y.addProduction(1, 1, 1, 1));
        Checks.noState(() -> y.subscribe(1));
        Checks.noElement(() -> y.reason(false));
    }
}
