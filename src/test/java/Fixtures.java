import java.util.NoSuchElementException;

/** Seasons that the tests start from, and ways to tell what one holds. */
final class Fixtures {
    private Fixtures() {
    }

    /** Productions 0 (size 5, crew 2, price 9, share 30) and 1 (size 3, crew 3, price 20, share 100). */
    static TheatreSeasons withProductions() {
        TheatreSeasons x = new TheatreSeasons();
        x.addProduction(5, 2, 9, 30);
        x.addProduction(3, 3, 20, 100);
        return x;
    }

    /** Performances 0 (stage 0, date 2) and 1 (stage 1, date 6) of production 0, 2 (stage 2, date 4) of 1. */
    static TheatreSeasons withPerformances() {
        TheatreSeasons x = withProductions();
        x.perform(0, 0, 2);
        x.perform(0, 1, 6);
        x.perform(1, 2, 4);
        return x;
    }

    /** As withPerformances; on the date 4: performances 2 (stage 2) and 3 (stage 0), with seats sold and held. */
    static TheatreSeasons withSeats() {
        TheatreSeasons x = withPerformances();
        x.perform(0, 0, 4);
        x.subscribe(2);
        x.subscribe(3);
        x.hold(0, 2);
        x.hold(1, 2);
        x.hold(1, 3);
        x.hold(1, 0);
        x.sell(2, 20);
        x.sell(3, 1);
        x.sell(1, 9);
        return x;
    }

    /**
     * As many as there may be: 8 productions, 24 performances (number n on stage n % 3 on date n / 3, of
     * production n % 8), 10 subscriptions of 1 + k % 6 seats, 20 requests for 50 seats, of which 19 wait
     * for performance 0 and the last one for performance 23, and 6 changes.
     */
    static TheatreSeasons full() {
        TheatreSeasons x = new TheatreSeasons();
        x.setRoom(99);
        for (int k = 0; k < 8; k++) {
            x.addProduction(1 + k, 1, 10 + k, 10 * k);
        }
        for (int n = 0; n < 24; n++) {
            x.perform(n % 8, n % 3, n / 3);
        }
        for (int k = 0; k < 10; k++) {
            x.subscribe(1 + k % 6);
        }
        for (int k = 0; k < 19; k++) {
            x.request(0, 50, k % 10);
        }
        x.request(23, 50, 5);
        return x;
    }

    static void type(TheatreSeasons x, String text) {
        for (int k = 0; k < text.length(); k++) {
            x.append(text.charAt(k));
        }
    }

    static int read(TheatreSeasons x, String text) {
        type(x, text);
        return x.read();
    }

    /** All that the history remembers, as far as the questions tell it. */
    static String told(TheatreSeasons x) {
        StringBuilder text = new StringBuilder();
        for (int k = 0; k < 13; k++) {
            text.append(x.account(k)).append(' ');
        }
        for (int k = 0; k < x.account(1); k++) {
            for (int what = 0; what < 8; what++) {
                text.append(x.performance(k, what)).append(' ');
            }
            for (int place = 0; place < x.performance(k, 6); place++) {
                text.append(x.waiting(k, place, false)).append('!').append(x.waiting(k, place, true)).append(' ');
            }
        }
        for (int k = 0; k < x.account(0); k++) {
            for (int what = 0; what < 8; what++) {
                text.append(x.production(k, what)).append(' ');
            }
        }
        for (int k = 0; k < x.account(2); k++) {
            for (int what = 0; what < 4; what++) {
                text.append(x.subscription(k, what)).append(' ');
            }
        }
        for (int date = 0; date < 30; date++) {
            text.append(x.load(date)).append(' ');
        }
        return text.append(x.peak()).toString();
    }

    /** As told, and the kept reason, the kept error position, the length of the input, the changes. */
    static String toldWhole(TheatreSeasons x) {
        return told(x) + " | " + reasonOf(x) + " " + positionOf(x) + " " + x.account(13) + " " + x.account(14);
    }

    private static String reasonOf(TheatreSeasons x) {
        try {
            return x.reason(false) + "/" + x.reason(true);
        } catch (NoSuchElementException e) {
            return "none";
        }
    }

    private static String positionOf(TheatreSeasons x) {
        try {
            return Integer.toString(x.errorPosition());
        } catch (NoSuchElementException e) {
            return "none";
        }
    }

    /**
     * Checks that two seasons hold the same, and looks into the input, the history and what was saved
     * by using them up.
     */
    static void checkSame(TheatreSeasons due, TheatreSeasons got, String what) {
        Checks.same(toldWhole(due), toldWhole(got), what);
        Checks.same(outcomeOfRead(due), outcomeOfRead(got), what + ", the input read");
        for (int k = 0; k < 8; k++) {
            Checks.same(outcomeOfUndo(due), outcomeOfUndo(got), what + ", undone " + (k + 1) + " times");
        }
        Checks.same(outcomeOfRestore(due), outcomeOfRestore(got), what + ", restored");
    }

    private static String outcomeOfRead(TheatreSeasons x) {
        try {
            return "read " + x.read() + " " + toldWhole(x);
        } catch (IllegalArgumentException | IllegalStateException e) {
            return e.getClass().getSimpleName() + " " + toldWhole(x);
        }
    }

    private static String outcomeOfUndo(TheatreSeasons x) {
        try {
            return "left " + x.undo() + " " + toldWhole(x);
        } catch (NoSuchElementException e) {
            return "none " + toldWhole(x);
        }
    }

    private static String outcomeOfRestore(TheatreSeasons x) {
        try {
            return "restored " + x.restore() + " " + toldWhole(x);
        } catch (IllegalStateException e) {
            return "none " + toldWhole(x);
        }
    }
}
