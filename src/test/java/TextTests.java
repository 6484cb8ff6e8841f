/** The input, what a text is, its error position, and what read does. A group is named by its sentence. */
public final class TextTests {
    /** A command of each kind: # stands for a number, 1 for a digit. */
    private static final String[] FORMS = {"s#x#", "r#x#", "w#x#!1", "h#:#", "l#:#", "e#:#>#", "m#@#"};

    private TextTests() {
    }

    public static void main(String[] args) {
        Checks.group("the input is a buffer of at most 60 characters", TextTests::fullInput);
        Checks.group("a text of 60 characters", TextTests::longestTexts);
        Checks.group("the input is empty afterwards, whatever happens", TextTests::emptyAfterwards);
        Checks.group("a number has one or two digits", TextTests::digits);
        Checks.group("each character at each place of each command", TextTests::eachCharacter);
        Checks.group("each beginning of a text", TextTests::beginnings);
        Checks.group("a semicolon between two commands", TextTests::semicolons);
        Checks.group("the empty input", TextTests::emptyInput);
        Checks.group("the error position of a full input", TextTests::errorInFullInput);
        Checks.group("the error position stays until the next malformed text", TextTests::positionStays);
        Checks.group("a command does what the method does", TextTests::sameAsMethods);
        Checks.group("the arguments are in the order of the text", TextTests::orderOfArguments);
        Checks.group("read returns the number of commands", TextTests::numberOfCommands);
        Checks.group("in their order, behind those before it", TextTests::inOrder);
        Checks.group("or nothing of it", TextTests::nothingOfIt);
        Checks.group("whatever exception, read throws IllegalStateException", TextTests::eachException);
        Checks.group("if it is a refusal, the reason is then kept", TextTests::keptReasons);
        Checks.group("what is no refusal leaves the kept reason", TextTests::reasonLeft);
        Checks.group("a malformed text does nothing", TextTests::malformedDoesNothing);
        Checks.end();
    }

    private static TheatreSeasons season() {
        TheatreSeasons x = Fixtures.withPerformances();
        x.subscribe(4);
        return x;
    }

    /** -1 if the text is read as one or several commands, else the error position. */
    private static int fault(String text) {
        TheatreSeasons x = new TheatreSeasons();
        Fixtures.type(x, text);
        String got = Checks.thrownBy(x::read);
        if (got.equals("IllegalArgumentException")) {
            return x.errorPosition();
        }
        Checks.tell(got.equals("IllegalStateException"), text + " threw " + got);
        Checks.noElement(x::errorPosition);
        return -1;
    }

    private static void checkFault(int due, String text) {
        int got = fault(text);
        Checks.tell(due == got, "'" + text + "' has the error position " + got + ", due is " + due);
    }

    // ---- the input

    private static void fullInput() {
        TheatreSeasons x = season();
        Fixtures.type(x, "s0x01;".repeat(9));
        Fixtures.type(x, "s0x01");
        Checks.is(59, x.account(13));
        Checks.is(60, x.append(';'));
        Checks.noState(() -> x.append('s'));
        Checks.noState(() -> x.append(' '));
        Checks.noArgument(() -> x.append((char) 127));
        Checks.noArgument(() -> x.append((char) 0));
        Checks.is(60, x.account(13));
        Checks.is(6, x.account(14));
        Checks.noArgument(x::read);
        Checks.is(60, x.errorPosition());
        Checks.is(0, x.account(13));
        Checks.is(1, x.append(' '));
        Checks.is(2, x.append('~'));
    }

    private static void longestTexts() {
        TheatreSeasons x = season();
        String text = "s0x1;".repeat(11) + "s0x01";
        Checks.is(60, text.length());
        Checks.is(12, Fixtures.read(x, text));
        Checks.is(12, x.performance(0, 3));
        TheatreSeasons y = season();
        String mixed = "w1x1!5;".repeat(8) + "s1x1";
        Checks.is(60, mixed.length());
        Checks.is(9, Fixtures.read(y, mixed));
        Checks.is(8, y.performance(1, 6));
        TheatreSeasons z = season();
        Checks.noState(() -> Fixtures.read(z, "s0x1;".repeat(11) + "s0x30"));
        Checks.keeps(z, 4, 29);
        Checks.is(0, z.performance(0, 3));
    }

    private static void emptyAfterwards() {
        TheatreSeasons x = season();
        Checks.is(1, Fixtures.read(x, "s0x1"));
        Checks.is(0, x.account(13));
        Checks.noArgument(() -> Fixtures.read(x, "s0x"));
        Checks.is(0, x.account(13));
        Checks.noState(() -> Fixtures.read(x, "s0x99"));
        Checks.is(0, x.account(13));
        Checks.noState(() -> Fixtures.read(x, "s3x1"));
        Checks.is(0, x.account(13));
        Checks.noArgument(x::read);
        Checks.is(1, Fixtures.read(x, "r0x1"));
        x.undo();
        Checks.is(0, x.account(13));
        Checks.is(1, x.append('s'));
    }

    private static void emptyInput() {
        checkFault(0, "");
        TheatreSeasons x = season();
        Checks.noArgument(x::read);
        Checks.is(0, x.errorPosition());
        Checks.is(6, x.account(14));
    }

    // ---- what a text is

    private static void digits() {
        TheatreSeasons x = season();
        Checks.is(1, Fixtures.read(x, "s0x1"));
        Checks.is(1, Fixtures.read(x, "s00x01"));
        Checks.is(1, Fixtures.read(x, "s0x10"));
        Checks.is(1, Fixtures.read(x, "s01x1"));
        Checks.is(12, x.performance(0, 3));
        Checks.is(1, x.performance(1, 3));
        x.setSeats(2, 99);
        Checks.is(1, Fixtures.read(x, "s2x99"));
        Checks.is(0, x.performance(2, 5));
        Checks.is(1, Fixtures.read(x, "w2x99!9"));
        Checks.is(99, x.waiting(2, 0, false));
        Checks.is(9, x.waiting(2, 0, true));
        Checks.is(1, Fixtures.read(x, "w1x01!0"));
        Checks.is(0, x.waiting(1, 0, true));
        checkFault(3, "s000x1");
        checkFault(5, "s0x001");
        checkFault(6, "s00x001");
        checkFault(6, "w0x1!10");
        checkFault(6, "w0x1!00");
        checkFault(-1, "e99:99>99");
        checkFault(9, "e99:99>999");
        checkFault(-1, "m99@99");
    }

    private static String example(String form, boolean isLong) {
        return form.replace("#", isLong ? "57" : "5").replace("1", "3");
    }

    /** Behind each right beginning of a command each of the 95 characters: right or the error position. */
    private static void eachCharacter() {
        for (String form : FORMS) {
            for (int kind = 0; kind < 2; kind++) {
                String command = example(form, kind == 1);
                for (int place = 0; place <= command.length(); place++) {
                    String start = command.substring(0, place);
                    for (char sign = 32; sign < 127; sign++) {
                        boolean isRight = mayFollow(start).indexOf(sign) >= 0;
                        int due = !isRight ? place : isWhole(start + sign) ? -1 : place + 1;
                        checkFault(due, start + sign);
                        checkFault(due < 0 ? -1 : 8 + due, "w3x12!0;" + start + sign);
                    }
                }
            }
        }
    }

    private static boolean isWhole(String command) {
        for (String form : FORMS) {
            if (command.matches(form.replace("#", "[0-9][0-9]?").replace("!1", "![0-9]"))) {
                return true;
            }
        }
        return false;
    }

    /** The characters with which a text can go on behind a right beginning of its first command. */
    private static String mayFollow(String start) {
        if (start.isEmpty()) {
            return "srwhlem";
        }
        String form = "";
        for (String each : FORMS) {
            form = each.charAt(0) == start.charAt(0) ? each : form;
        }
        String kinds = start.replaceAll("[0-9]+", "#");
        int digits = 0;
        while (Character.isDigit(start.charAt(start.length() - 1 - digits))) {
            digits++;
        }
        boolean isDigitOnly = kinds.endsWith("!#");
        String next = kinds.length() < form.length() ? form.substring(kinds.length(), kinds.length() + 1) : ";";
        String expected = next.equals("#") || next.equals("1") ? "0123456789" : next;
        return digits == 1 && !isDigitOnly ? expected + "0123456789" : expected;
    }

    private static void beginnings() {
        String[] texts = {"s12x34", "r1x2", "w12x34!5", "h1:23", "l12:3", "e12:34>56", "m1@29",
            "s1x2;r3x4;w5x6!7;h8:9;l0:1;e2:3>4;m5@6"};
        for (String text : texts) {
            for (int length = 0; length <= text.length(); length++) {
                String start = text.substring(0, length);
                int from = start.lastIndexOf(';') + 1;
                checkFault(isWhole(start.substring(from)) ? -1 : length, start);
            }
        }
    }

    private static void semicolons() {
        checkFault(-1, "s1x2;s1x2");
        checkFault(5, "s1x2;");
        checkFault(5, "s1x2;;");
        checkFault(5, "s1x2;;s1x2");
        checkFault(0, ";");
        checkFault(0, ";s1x2");
        checkFault(4, "s1x2s1x2");
        checkFault(4, "s1x2,s1x2");
        checkFault(4, "s1x2 ;s1x2");
        checkFault(5, "s1x2; s1x2");
        checkFault(10, "s1x2;s1x2;");
        checkFault(5, "s1x2;S1x2");
        checkFault(6, "s1x23;;");
        checkFault(7, "w1x2!3;");
        checkFault(8, "e1:2>34;x");
        checkFault(1, "s");
        checkFault(0, "S");
        checkFault(0, "x");
    }

    private static void errorInFullInput() {
        checkFault(60, "s1x1;".repeat(12));
        checkFault(59, "s1x1;".repeat(11) + "s1x1x");
        checkFault(60, "s1x1;".repeat(11) + "w1x1!");
        checkFault(-1, "s1x1;".repeat(11) + "s1x10");
        checkFault(59, "s1x1;".repeat(11) + "s1x1 ");
        checkFault(0, " ".repeat(60));
        checkFault(1, "s".repeat(60));
        checkFault(3, "s" + "1".repeat(59));
    }

    private static void positionStays() {
        TheatreSeasons x = season();
        Checks.noElement(x::errorPosition);
        Checks.is(1, Fixtures.read(x, "s0x1"));
        Checks.noElement(x::errorPosition);
        Checks.noState(() -> Fixtures.read(x, "s0x99"));
        Checks.noElement(x::errorPosition);
        Checks.noArgument(() -> Fixtures.read(x, "s0x1;"));
        Checks.is(5, x.errorPosition());
        Checks.is(5, x.errorPosition());
        Checks.is(1, Fixtures.read(x, "s0x1"));
        Checks.is(5, x.errorPosition());
        Checks.noState(() -> Fixtures.read(x, "s0x99"));
        Checks.is(5, x.errorPosition());
        x.save();
        x.undo();
        Checks.is(5, x.errorPosition());
        x.restore();
        Checks.is(5, x.errorPosition());
        Checks.noArgument(() -> Fixtures.read(x, "s0y"));
        Checks.is(2, x.errorPosition());
        Checks.noArgument(x::read);
        Checks.is(0, x.errorPosition());
        Checks.noArgument(() -> Fixtures.read(x, "s1x1;".repeat(12)));
        Checks.is(60, x.errorPosition());
    }

    // ---- what read does

    private static void sameAsMethods() {
        String[] texts = {"s2x07", "r1x2", "w2x9!8", "h0:1", "l1:3", "e1:2>1", "m0@29", "s3x36", "r01x9", "l0:2"};
        for (String text : texts) {
            TheatreSeasons due = Fixtures.withSeats();
            TheatreSeasons got = Fixtures.withSeats();
            due.request(1, 3, 3);
            got.request(1, 3, 3);
            due.request(2, 4, 4);
            got.request(2, 4, 4);
            call(due, text);
            Checks.is(1, Fixtures.read(got, text));
            Fixtures.checkSame(due, got, text);
        }
    }

    private static void call(TheatreSeasons x, String text) {
        String[] numbers = text.substring(1).split("[^0-9]");
        int a = Integer.parseInt(numbers[0]);
        int b = Integer.parseInt(numbers[1]);
        int c = numbers.length > 2 ? Integer.parseInt(numbers[2]) : 0;
        switch (text.charAt(0)) {
            case 's': x.sell(a, b); break;
            case 'r': x.refund(a, b); break;
            case 'w': x.request(a, b, c); break;
            case 'h': x.hold(a, b); break;
            case 'l': x.release(a, b); break;
            case 'e': x.exchange(a, b, c); break;
            default: x.move(a, b); break;
        }
    }

    private static void orderOfArguments() {
        TheatreSeasons x = season();
        x.subscribe(1);
        Fixtures.read(x, "s1x2");
        Checks.is(2, x.performance(1, 3));
        Fixtures.read(x, "r1x1");
        Checks.is(1, x.performance(1, 3));
        Fixtures.read(x, "w1x3!2");
        Checks.is(3, x.waiting(1, 0, false));
        Checks.is(2, x.waiting(1, 0, true));
        Fixtures.read(x, "h1:0");
        Checks.is(1, x.subscription(1, 3));
        Fixtures.read(x, "e1:0>2");
        Checks.is(4, x.subscription(1, 3));
        Fixtures.read(x, "l1:2");
        Checks.is(0, x.subscription(1, 3));
        Fixtures.read(x, "m1@0");
        Checks.is(0, x.performance(1, 2));
    }

    private static void numberOfCommands() {
        for (int commands = 1; commands <= 12; commands++) {
            TheatreSeasons x = season();
            x.undo();
            Checks.is(commands, Fixtures.read(x, "s1x1" + ";s1x1".repeat(commands - 1)));
            Checks.is(commands, x.performance(1, 3));
            Checks.is(6, x.account(14));
            Checks.is(5, x.undo());
            Checks.is(0, x.performance(1, 3));
        }
    }

    private static void inOrder() {
        TheatreSeasons x = season();
        Checks.is(3, Fixtures.read(x, "s0x40;w0x9!1;r0x9"));
        Checks.is(40, x.performance(0, 3));
        Checks.noState(() -> Fixtures.read(x, "w1x9!1;r1x9;s1x40"));
        Checks.keeps(x, 7, 0);
        Checks.is(3, Fixtures.read(x, "m0@3;m2@2;m0@4"));
        Checks.is(4, x.performance(0, 2));
        Checks.noState(() -> Fixtures.read(x, "r0x9;s0x10"));
        Checks.keeps(x, 4, 9);
        Checks.is(4, Fixtures.read(x, "h0:1;e0:1>2;e0:2>1;l0:1"));
        Checks.is(2, x.subscription(0, 2));
        Checks.noState(() -> Fixtures.read(x, "h0:1;e0:1>2"));
        Checks.keeps(x, 6, 2);
    }

    private static void nothingOfIt() {
        String[] texts = {"s0x9;s0x8;s0x7;s0x99", "h0:0;h0:0", "m0@9;m1@10;m2@31", "w0x1!1;w0x2!2;r0x1",
            "s0x1;r0x1;w0x1!1;h0:1;e0:1>2;l0:2;m0@20;s9x1", "s0x0"};
        for (String text : texts) {
            TheatreSeasons due = season();
            TheatreSeasons got = season();
            Checks.noState(() -> Fixtures.read(got, text));
            Checks.same(Fixtures.told(due), Fixtures.told(got), text);
            for (int left = 5; left >= 0; left--) {
                Checks.is(left, due.undo());
                Checks.is(left, got.undo());
                Checks.same(Fixtures.told(due), Fixtures.told(got), text + ", undone");
            }
            Checks.noElement(got::undo);
        }
    }

    private static void eachException() {
        String[] texts = {"s3x1", "s0x0", "s0x41", "r3x1", "r0x0", "r0x1", "w3x1!1", "w0x0!1", "h1:0", "h0:3", "h0:1",
            "l1:0", "l0:3", "l0:0", "e1:1>0", "e0:3>0", "e0:1>3", "e0:1>1", "e0:0>1", "m3@1", "m0@30", "m0@6",
            "m99@99", "s99x0"};
        for (String text : texts) {
            TheatreSeasons x = season();
            x.hold(0, 1);
            Checks.noState(() -> Fixtures.read(x, text));
            Checks.is(0, x.account(13));
        }
        TheatreSeasons full = Fixtures.full();
        Checks.noState(() -> Fixtures.read(full, "w1x1!1"));
        Checks.keeps(full, 8, 20);
    }

    private static void keptReasons() {
        String[] texts = {"m0@6", "m2@12", "m4@9", "s0x41", "h0:0;h0:0", "l0:0", "e0:0>1", "r0x1", "s0x39;s0x2"};
        int[][] due = {{1, 1}, {2, 3}, {3, 5}, {4, 40}, {5, 0}, {5, 0}, {5, 0}, {7, 0}, {4, 1}};
        for (int k = 0; k < texts.length; k++) {
            String text = texts[k];
            TheatreSeasons x = season();
            x.addProduction(9, 6, 1, 1);
            x.perform(2, 0, 12);
            x.perform(1, 2, 5);
            x.setRoom(5);
            Checks.noElement(() -> x.reason(false));
            Checks.noState(() -> Fixtures.read(x, text));
            Checks.keeps(x, due[k][0], due[k][1]);
        }
    }

    private static void reasonLeft() {
        String[] texts = {"s3x1", "s0x0", "m0@30", "h1:0", "e0:0>3", "w0x0!1", "s0x1;l0:9"};
        for (String text : texts) {
            TheatreSeasons x = season();
            Checks.noState(() -> Fixtures.read(x, text));
            Checks.noElement(() -> x.reason(false));
            Checks.noElement(() -> x.reason(true));
            Checks.refused(x, 7, 0, () -> x.refund(0, 1));
            Checks.noState(() -> Fixtures.read(x, text));
            Checks.keeps(x, 7, 0);
        }
    }

    private static void malformedDoesNothing() {
        String[] texts = {"s0x1;", "s0x1;s", "s0x1;;s0x1", "h0:0;m0@9;q", ""};
        for (String text : texts) {
            TheatreSeasons due = season();
            TheatreSeasons got = season();
            due.save();
            got.save();
            Checks.noArgument(() -> Fixtures.read(due, "s".repeat(5)));
            Checks.noArgument(() -> Fixtures.read(got, text));
            Checks.same(Fixtures.told(due), Fixtures.told(got), text);
            Checks.is(6, got.account(14));
            Checks.noElement(() -> got.reason(false));
            Checks.noArgument(() -> Fixtures.read(got, "s".repeat(5)));
            Fixtures.checkSame(due, got, text);
        }
    }
}
