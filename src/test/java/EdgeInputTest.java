/** The edges that promises 1 to 6 and section 7 name: the buffer of 600 bytes, the tokens, the statements and their errors. */
public final class EdgeInputTest {
    private static final Check check = new Check("EdgeInputTest");
    private static final int MIN = Integer.MIN_VALUE;
    private static final int MAX = Integer.MAX_VALUE;
    private static final String M = "market 20 10 8;";
    private static final String FIRST = "market 20 10 8;baker ann 4 2;baker bob 3 1;bake ann rye;bake bob roll;hours 2;bake bob wheat;"
            + "customer cid roll 2 6 50 9;customer dot rye 3 25 60 5;customer eli roll 2 4 9 3;sparrows 2 7;hours 1;";
    private static final String[] STATEMENTS = {"baker x 1 1 ;", "bake a rye ;", "customer x rye 1 1 1 1 ;", "auction rye ;", "sparrows 1 1 ;", "hours 1 ;"};

    public static void main(String[] args) {
        check.part("P1", EdgeInputTest::p1StateOfANewObject);
        check.part("P1", EdgeInputTest::p1EmptyParts);
        check.part("P2", EdgeInputTest::p2PlacesOfTheBytes);
        check.part("P2", EdgeInputTest::p2NewLength);
        check.part("P2", EdgeInputTest::p2Full);
        check.part("P3", EdgeInputTest::p3Range);
        check.part("P3", EdgeInputTest::p3BytesBeyondAreGone);
        check.part("P4", EdgeInputTest::p4BufferIsEmptyAfterwards);
        check.part("P4", EdgeInputTest::p4ErrorLeavesTheRest);
        check.part("P4", EdgeInputTest::p4ReturnsTheQueue);
        check.part("P4", EdgeInputTest::p4NothingOfAnotherMarketIsLeft);
        check.part("P4", EdgeInputTest::p4ReplacesTheWholeState);
        check.part("P5 P6", EdgeInputTest::p5p6LatestCall);
        check.part("S7", EdgeInputTest::s7SeparatorsAndTokens);
        check.part("S7", EdgeInputTest::s7WordsAndNumbers);
        check.part("S7", EdgeInputTest::s7FirstWords);
        check.part("S7", EdgeInputTest::s7MarketIsFirstAndOnlyThere);
        check.part("S7", EdgeInputTest::s7TextEndsTooEarly);
        check.part("S7", EdgeInputTest::s7TokenNotAllowed);
        check.part("S7", EdgeInputTest::s7RangesOfNumbers);
        check.part("S7", EdgeInputTest::s7LongNumbers);
        check.part("S7", EdgeInputTest::s7LastBytesOfTheBuffer);
        check.part("S7", EdgeInputTest::s7NewNames);
        check.part("S7", EdgeInputTest::s7NamesTaken);
        check.part("S7", EdgeInputTest::s7NameAfterBake);
        check.part("S7", EdgeInputTest::s7FourBakers);
        check.part("S7", EdgeInputTest::s7TenCustomers);
        check.part("S7", EdgeInputTest::s7SemicolonOfBake);
        check.part("S7", EdgeInputTest::s7FirstErrorAndSmallestCode);
        check.part("S7", EdgeInputTest::s7OrderOfTheText);
        check.end();
    }

    // ---- promise 1 ----

    private static void p1StateOfANewObject() {
        check.dueText("P1 a new object has the state of the text of section 8", Use.state(new LoafMarket()), Use.state(Use.loaded(FIRST)));
        LoafMarket failed = new LoafMarket();
        Twin.tryLoad(failed);
        check.dueText("P1 and keeps it until the first load without an error", Use.state(failed), Use.state(new LoafMarket()));
    }

    private static void p1EmptyParts() {
        LoafMarket m = new LoafMarket();
        check.due("P1 empty input buffer", Use.inputLength(m), 0);
        check.due("P1 no error code", m.errorCode(), 0);
        check.due("P1 no error position", m.errorPosition(), LoafMarket.NONE);
        check.dueElement("P1 empty output", () -> m.outputByte(0));
        check.dueState("P1 slot 0 is empty", () -> m.restore(0));
        check.dueState("P1 slot 1 is empty", () -> m.restore(1));
        check.due("P1 no call is remembered", m.undoDepth(), 0);
        check.dueState("P1 nothing to undo", m::undo);
    }

    // ---- promise 2 ----

    private static void p2PlacesOfTheBytes() {
        for (int place = 0; place < 20; place++) {
            int[] words = new int[5];
            for (int i = 0; i < 20; i++) {
                words[i / 4] = words[i / 4] << 8 | (i == place ? '+' : ' ');
            }
            LoafMarket m = new LoafMarket();
            m.appendInput(words[0], words[1], words[2], words[3], words[4]);
            check.dueArgument("P2 byte " + place + " is a token", m::load);
            check.due("P2 the place of byte " + place, m.errorPosition(), place);
        }
        for (int value : new int[] {0, 1, 127, 128, 255}) {
            LoafMarket m = new LoafMarket();
            m.appendInput(0x20202020, 0x20200020 | value << 8, 0x20202020, MIN, MAX);
            check.dueArgument("P2 byte of " + value, m::load);
            check.due("P2 the place of a byte of " + value, m.errorPosition(), 6);
        }
    }

    private static void p2NewLength() {
        LoafMarket m = new LoafMarket();
        check.due("P2 from 0", m.appendInput(0, 0, 0, 0, 0), 20);
        check.due("P2 from 20", m.appendInput(MAX, MIN, -1, 1, 0), 40);
        m.truncateInput(1);
        check.due("P2 from 1", m.appendInput(0, 0, 0, 0, 0), 21);
        check.due("P2 is not undoable", m.undoDepth(), 0);
        LoafMarket onward = new LoafMarket();
        Use.feed(onward, "market 1 2");
        onward.appendInput(0x20333b20, 0x20202020, 0x20202020, 0x20202020, 0x20202020);
        check.due("P2 goes on behind the last byte", onward.load(), 0);
        check.due("P2 and keeps the bytes before", onward.basePrice(1) * 10 + onward.basePrice(2), 23);
    }

    private static void p2Full() {
        for (int length = 578; length <= 600; length++) {
            LoafMarket m = filled(length);
            String call = "P2 appendInput at " + length;
            if (length <= 580) {
                check.due(call, m.appendInput(0, 0, 0, 0, 0), length + 20);
            } else {
                check.dueState(call, () -> m.appendInput(0, 0, 0, 0, 0));
                check.due(call + " leaves the length", Use.inputLength(m), length);
            }
        }
        for (int length : new int[] {581, 600}) {
            Twin.refusedState(check, "P2 appendInput at " + length, () -> Twin.rich(M, spaced("market 5 6 7;hours 3;", length)),
                    m -> m.appendInput(0x2b2b2b2b, 1, 1, 1, 1));
        }
    }

    private static LoafMarket filled(int length) {
        LoafMarket m = new LoafMarket();
        for (int i = 0; i < 30; i++) {
            m.appendInput(0, 0, 0, 0, 0);
        }
        m.truncateInput(length);
        return m;
    }

    private static String spaced(String text, int length) {
        return text + " ".repeat(length - text.length());
    }

    // ---- promise 3 ----

    private static void p3Range() {
        for (int length : new int[] {0, 1, 20, 599, 600}) {
            LoafMarket m = filled(length);
            for (int wrong : new int[] {-1, length + 1, MIN, MAX}) {
                check.dueArgument("P3 truncateInput(" + wrong + ") of " + length, () -> m.truncateInput(wrong));
            }
            check.due("P3 truncateInput to all of " + length, m.truncateInput(length), length);
            if (length > 0) {
                check.due("P3 truncateInput to one less than " + length, m.truncateInput(length - 1), length - 1);
                check.dueArgument("P3 the byte is gone from " + length, () -> m.truncateInput(length));
            }
            check.due("P3 truncateInput(0) of " + length, m.truncateInput(0), 0);
            check.dueArgument("P3 truncateInput(1) of 0", () -> m.truncateInput(1));
            check.due("P3 is not undoable", m.undoDepth(), 0);
        }
        Twin.refusedArgument(check, "P3 truncateInput(-1)", Twin::rich, m -> m.truncateInput(-1));
        Twin.refusedArgument(check, "P3 truncateInput(22) of 21", Twin::rich, m -> m.truncateInput(22));
    }

    private static void p3BytesBeyondAreGone() {
        LoafMarket m = new LoafMarket();
        Use.feed(m, "market 1 2 3;+");
        m.truncateInput(13);
        check.due("P3 the byte beyond is not read", m.load(), 0);
        LoafMarket cut = new LoafMarket();
        Use.feed(cut, "market 1 2 3;");
        cut.truncateInput(12);
        check.dueArgument("P3 one byte less", cut::load);
        check.due("P3 is one byte less", cut.errorPosition(), 12);
        cut("P3 within a word", "market 1 1 1;auction rye;", 23, "1 at 21");
        cut("P3 within a number", "market 1 1 1;hours 12;", 20, "1 at 20");
        cut("P3 before a semicolon", "market 1 1 1;hours 12;", 21, "1 at 21");
        cut("P3 within a name", "market 1 1 1;baker abcdef 1 1;", 23, "1 at 23");
        cut("P3 to separators", "market 1 1 1;  hours 1;", 15, "fine");
        LoafMarket name = new LoafMarket();
        Use.feed(name, "zoeann");
        name.truncateInput(3);
        name.joinQueue(0, 1, 1, 1, 1);
        check.dueText("P3 a name that was cut", Use.customerName(name, 3), "zoe");
        LoafMarket again = new LoafMarket();
        Use.feed(again, "market 1 2 3;hours 9;");
        again.truncateInput(0);
        again.appendInput(0x6d61726b, 0x65742034, 0x20352036, 0x3b202020, 0x20202020);
        again.load();
        check.due("P3 the old bytes do not come back", again.hour(), 0);
    }

    private static void cut(String what, String text, int length, String due) {
        LoafMarket m = new LoafMarket();
        Use.feed(m, text);
        m.truncateInput(length);
        Twin.tryLoad(m);
        check.dueText(what, m.errorCode() == 0 ? "fine" : Twin.look("error", m), due);
    }

    // ---- promise 4 ----

    private static void p4BufferIsEmptyAfterwards() {
        for (String text : new String[] {"", "x", M, M + "hours 61;", spaced(M, 600), spaced("+", 600)}) {
            LoafMarket m = new LoafMarket();
            Use.feed(m, text);
            Twin.tryLoad(m);
            check.dueArgument("P4 the buffer is empty after " + text, () -> m.truncateInput(1));
            check.due("P4 the next bytes are the first ones", m.appendInput(0, 0, 0, 0, 0), 20);
        }
    }

    private static void p4ErrorLeavesTheRest() {
        String[] wrong = {"", M + "x", M + "hours 61;", M + "baker a 1 1;baker a 1 1;", M + "bake a rye;", M + "baker a 1 1;bake a rye;bake a rye;",
            M + "baker a 1 1;baker b 1 1;baker c 1 1;baker d 1 1;baker", M + "hours 60;customer z rye 1 1 1 1;auction rye;sparrows 9 999;hours 9"};
        for (String text : wrong) {
            Twin.Maker maker = () -> {
                LoafMarket m = Twin.rich();
                Use.feed(m, text);
                return m;
            };
            check.dueArgument("P4 load of " + text, () -> maker.make().load());
            Twin.leaves(check, "P4 load of " + text, maker, LoafMarket::load, "market", "output", "undo", "slots");
        }
    }

    private static void p4ReturnsTheQueue() {
        check.due("P4 an empty queue", loadOf(M), 0);
        check.due("P4 one customer", loadOf(M + "customer a rye 1 1 1 1;"), 1);
        check.due("P4 one who left does not count", loadOf(M + "customer a rye 1 1 1 1;customer b rye 1 1 1 2;hours 1;"), 1);
        check.due("P4 ten customers", loadOf(M + customers(10)), 10);
    }

    private static int loadOf(String text) {
        LoafMarket m = new LoafMarket();
        Use.feed(m, text);
        return m.load();
    }

    private static String customers(int number) {
        StringBuilder text = new StringBuilder();
        for (int i = 0; i < number; i++) {
            text.append("customer ").append((char) ('k' + i)).append(" rye 1 1 1 ").append(i == 4 ? 1 : 9).append(';');
        }
        return text.toString();
    }

    /** Neither a text with an error nor a question about the future leaves anything in the next market. */
    private static void p4NothingOfAnotherMarketIsLeft() {
        String full = "market 9 1 1;baker a 12 1;baker b 12 9;bake a rye;hours 1;bake a roll;bake b rye;hours 1;customer c rye 2 9 99 9;customer d rye 1 1 1 1;customer e roll 1 1 9 99;auction rye;hours 4;sparrows 7 77;bake a rye;";
        String next = "market 1 2 3;baker x 1 1;baker y 2 2;";
        String due = "0 0 0 base 1 2 3 | x 1 -1 0 0 | y 2 -1 0 0 |  |  | 0.0 0 0";
        LoafMarket error = new LoafMarket();
        Use.feed(error, full + "x");
        check.dueArgument("P4 a text with an error at its end", error::load);
        Use.feed(error, next);
        check.due("P4 then one without", error.load(), 0);
        check.dueText("P4 is as the text says", Use.state(error), due);
        check.due("S3 with tickets from 0 on", Use.join(error, "c", 0, 1, 1, 1, 1), 0);
        LoafMarket asked = Use.loaded(full);
        for (int hours : new int[] {0, 1, 100}) {
            asked.loavesAfter(hours);
            Use.feed(asked, next);
            check.due("P4 after a question about the future", asked.load(), 0);
            check.dueText("P4 is as the text says", Use.state(asked), due);
            asked.undo();
        }
        LoafMarket loaded = Use.loaded(full);
        Use.feed(loaded, next);
        loaded.load();
        check.dueText("P4 after another market", Use.state(loaded), due);
    }

    private static void p4ReplacesTheWholeState() {
        LoafMarket m = Twin.rich();
        m.auction(0);
        Use.feed(m, "market 1 2 3;");
        check.due("P4 load", m.load(), 0);
        check.dueText("P4 nothing of the market before is left", Use.state(m), "0 0 0 base 1 2 3 |  |  | 0.0 0 0");
        check.due("P4 tickets begin at 0 again", Use.join(m, "cid", 0, 1, 1, 1, 1), 0);
        Twin.leaves(check, "P4 load without an error", Twin::rich, LoafMarket::load, "output", "slots");
    }

    // ---- promises 5 and 6 ----

    private static void p5p6LatestCall() {
        LoafMarket m = new LoafMarket();
        errorIs("before load", m, 0, LoafMarket.NONE);
        latest(m, "", 1, 0);
        latest(m, M + "hours 61;", 2, 21);
        latest(m, M, 0, LoafMarket.NONE);
        latest(m, M, 0, LoafMarket.NONE);
        latest(m, M + "baker a 1 1;baker a 1 1;", 3, 33);
        latest(m, M + "bake a rye;", 4, 20);
        latest(m, M + "baker a 1 1;baker b 1 1;baker c 1 1;baker d 1 1;baker e 1 1;", 5, 63);
        latest(m, M + "baker a 1 1;bake a rye;bake a rye;", 6, 48);
        m.undo();
        errorIs("after an undo, which leaves the error", m, 6, 48);
        latest(m, FIRST, 0, LoafMarket.NONE);
        m.undo();
        errorIs("after an undo, which leaves no error", m, 0, LoafMarket.NONE);
    }

    private static void latest(LoafMarket m, String text, int code, int position) {
        int codeBefore = m.errorCode();
        int positionBefore = m.errorPosition();
        Use.feed(m, text);
        errorIs("after bytes alone, which are no call of load", m, codeBefore, positionBefore);
        Twin.tryLoad(m);
        errorIs("after " + text, m, code, position);
    }

    private static void errorIs(String when, LoafMarket m, int code, int position) {
        check.due("P5 the code " + when, m.errorCode(), code);
        check.due("P6 the position " + when, m.errorPosition(), position);
    }

    // ---- section 7: tokens ----

    private static void s7SeparatorsAndTokens() {
        for (int sign = 0; sign < 256; sign++) {
            boolean separates = sign == ' ' || sign == '\n';
            char c = (char) sign;
            verdict("S7 byte " + sign + " between statements", "market 1 1 1;" + c + "hours 1;", separates ? "fine" : "1 at 13");
            verdict("S7 byte " + sign + " before all", c + "market 1 1 1;", separates ? "fine" : "1 at 0");
            verdict("S7 byte " + sign + " after all", "market 1 1 1;" + c, separates ? "fine" : "1 at 13");
            if (sign < 'a' || sign > 'z') {
                verdict("S7 byte " + sign + " within a word", "market 1 1 1;ho" + c + "urs 1;", "1 at 13");
            }
            if (sign != ';' && (sign < '0' || sign > '9')) {
                verdict("S7 byte " + sign + " for a semicolon", "market 1 1 1" + c, separates ? "1 at 13" : "1 at 12");
                verdict("S7 byte " + sign + " for a number", "market 1 1 " + c, separates ? "1 at 12" : "1 at 11");
            }
        }
        verdict("S7 many separators", " \n\n  market \n 1\n\n1  1 ;\n \n", "fine");
        verdict("S7 separators alone", " \n ", "1 at 3");
        verdict("S7 a separator within a number makes two", "market 1 1 1;hours 1 0;", "1 at 21");
        verdict("S7 a line feed within a word makes two", "market 1 1 1;hou\nrs 1;", "1 at 13");
        verdict("S7 no separators where none are needed", "market1 1 1;baker a12 9;customer b rye9 99 999 99;hours1;", "fine");
    }

    private static void s7WordsAndNumbers() {
        verdict("S7 a word is a maximal run of letters", "market 1 1 1;hoursx 1;", "1 at 13");
        verdict("S7 a digit ends a word", "market 1 1 1;hours1x;", "1 at 19");
        verdict("S7 a letter ends a number", "market 1 1 1x;", "1 at 12");
        verdict("S7 a capital letter is no letter", "market 1 1 1;hourS 1;", "1 at 13");
        verdict("S7 a and z are letters", "market 1 1 1;baker az 1 1;baker za 1 1;bake az rye;bake za rye;", "fine");
        verdict("S7 the byte before a is none", "market 1 1 1;baker ` 1 1;", "1 at 19");
        verdict("S7 the byte after z is none", "market 1 1 1;baker { 1 1;", "1 at 19");
        verdict("S7 0 and 9 are digits", "market 90 09 9;", "fine");
        verdict("S7 the byte before 0 is none", "market / 1 1;", "1 at 7");
        verdict("S7 the byte after 9 is none", "market : 1 1;", "1 at 7");
        verdict("S7 a sign before a number is a token", "market +1 1 1;", "1 at 7");
        verdict("S7 a point ends a number", "market 1.1 1;", "1 at 8");
        for (String kind : new String[] {"rye", "wheat", "roll"}) {
            for (int i = 0; i < kind.length(); i++) {
                verdict("S7 a letter of " + kind, M + "auction " + kind.substring(0, i) + "q" + kind.substring(i + 1) + ";", "1 at 23");
            }
            verdict("S7 the kind " + kind, M + "auction " + kind + ";", "fine");
            verdict("S7 a letter more than " + kind, M + "auction " + kind + "s;", "1 at 23");
            verdict("S7 a letter less than " + kind, M + "auction " + kind.substring(0, kind.length() - 1) + ";", "1 at 23");
        }
        check.due("S7 the kind rye", Use.loaded(M + "customer a rye 1 1 1 1;").kindWanted(0), LoafMarket.RYE);
        check.due("S7 the kind wheat", Use.loaded(M + "customer a wheat 1 1 1 1;").kindWanted(0), LoafMarket.WHEAT);
        check.due("S7 the kind roll", Use.loaded(M + "customer a roll 1 1 1 1;").kindWanted(0), LoafMarket.ROLL);
    }

    // ---- section 7: statements ----

    private static void s7FirstWords() {
        for (String statement : STATEMENTS) {
            String word = statement.substring(0, statement.indexOf(' '));
            for (int i = 0; i < word.length(); i++) {
                verdict("S7 a letter of " + word, M + word.substring(0, i) + "q" + word.substring(i + 1) + statement.substring(word.length()), "1 at 15");
            }
            verdict("S7 a letter more", M + word + "s" + statement.substring(word.length()), "1 at 15");
            verdict("S7 a letter less", M + statement.substring(1), "1 at 15");
        }
        for (String word : new String[] {"qarket", "mqrket", "maqket", "marqet", "markqt", "markeq", "marke", "arket", "markets"}) {
            verdict("S7 a letter of market", word + " 1 1 1;", "1 at 0");
        }
    }

    private static void s7MarketIsFirstAndOnlyThere() {
        verdict("S7 an empty text", "", "1 at 0");
        verdict("S7 market alone", M, "fine");
        for (String statement : STATEMENTS) {
            verdict("S7 first: " + statement, statement, "1 at 0");
            verdict("S7 before market: " + statement, " " + statement + M, "1 at 1");
        }
        verdict("S7 market twice", M + M, "1 at 15");
        verdict("S7 market at the end", M + "hours 1;" + M, "1 at 23");
        verdict("S7 a semicolon is no statement", M + ";", "1 at 15");
    }

    private static void s7TextEndsTooEarly() {
        early("market 1 2 3 ;", "");
        for (String statement : STATEMENTS) {
            early(statement, M + "baker a 1 1;");
        }
    }

    private static void early(String statement, String before) {
        String[] tokens = statement.split(" ");
        StringBuilder text = new StringBuilder(before);
        for (int i = 0; i + 1 < tokens.length; i++) {
            text.append(i == 0 ? "" : " ").append(tokens[i]);
            int length = text.length();
            verdict("S7 ends before token " + (i + 1) + " of " + statement, text.toString(), "1 at " + length);
            verdict("S7 ends so with separators after it", text + " \n", "1 at " + (length + 2));
        }
        verdict("S7 ends behind " + statement, text.append(" ;").toString(), "fine");
    }

    private static void s7TokenNotAllowed() {
        notAllowed("market 1 2 3 ;", "");
        for (String statement : STATEMENTS) {
            notAllowed(statement, M + "baker a 1 1;");
        }
    }

    /** Puts a token of every other form in the place of each token. */
    private static void notAllowed(String statement, String before) {
        String[] tokens = statement.split(" ");
        for (int i = 0; i < tokens.length; i++) {
            for (String other : new String[] {"+", ";", "7", "xy"}) {
                boolean name = i == 1 && (tokens[0].equals("baker") || tokens[0].equals("customer") || tokens[0].equals("bake"));
                boolean sameForm = other.equals(tokens[i]) || other.equals("7") && tokens[i].matches("[0-9]") || name && other.equals("xy");
                if (!sameForm) {
                    StringBuilder text = new StringBuilder(before);
                    for (int k = 0; k < i; k++) {
                        text.append(tokens[k]).append(' ');
                    }
                    verdict("S7 " + other + " for token " + i + " of " + statement, text + other, "1 at " + text.length());
                }
            }
        }
    }

    // ---- section 7: numbers ----

    private static void s7RangesOfNumbers() {
        ranges("market ", " 10 8;", 1, 99, m -> m.basePrice(0));
        ranges("market 20 ", " 8;", 1, 99, m -> m.basePrice(1));
        ranges("market 20 10 ", ";", 1, 99, m -> m.basePrice(2));
        ranges(M + "baker a ", " 1;", 1, 12, m -> m.ovenSize(0));
        ranges(M + "baker a 1 ", ";bake a rye;", 1, 9, m -> m.hoursLeft(0));
        ranges(M + "customer a rye ", " 1 1 1;", 1, 9, m -> m.wanted(0));
        ranges(M + "customer a rye 1 ", " 1 1;", 1, 99, m -> m.limitPrice(0));
        ranges(M + "customer a rye 1 1 ", " 1;", 0, 999, m -> m.purse(0));
        ranges(M + "customer a rye 1 1 1 ", ";", 1, 99, m -> m.patience(0));
        ranges(M + "sparrows ", " 1;", 0, 9, LoafMarket::sparrows);
        ranges(M + "sparrows 1 ", ";", 0, 999, LoafMarket::crumbs);
        ranges(M + "hours ", ";", 0, 60, LoafMarket::hour);
    }

    private static void ranges(String before, String after, int least, int most, Twin.Act read) {
        for (int value : new int[] {least, least + 1, most - 1, most}) {
            check.due("S7 " + before + value + after, read.run(Use.loaded(before + value + after)), value);
            check.due("S7 leading zeros of " + value, read.run(Use.loaded(before + "0000000000000" + value + after)), value);
        }
        String error = "2 at " + before.length();
        if (least > 0) {
            verdict("S7 one below the least", before + (least - 1) + after, error);
            verdict("S7 the same with zeros", before + "00000" + after, error);
        }
        // 256, 2 to the 16th, 32nd and 64th more than a number in range
        String[] wrong = {Integer.toString(most + 1), "0" + (most + 1), "1000", "10000", "100000", "1000000", Integer.toString(256 * 256 + most),
            "2147483647", "2147483648", Long.toString((1L << 32) + most), "4294967297", "9223372036854775808", "18446744073709551617",
            "1" + "0".repeat(40), "9".repeat(60)};
        for (String number : wrong) {
            if (number.length() > 4 || Integer.parseInt(number) > most) {
                verdict("S7 above the most: " + before + number, before + number + after, error);
            }
        }
        verdict("S7 out of range is told before the text goes wrong", before + (most + 1) + "+", error);
    }

    private static void s7LongNumbers() {
        String start = "market 1 1 1;hours ";
        verdict("S7 579 zeros and a digit", start + "0".repeat(579) + "9;", "fine");
        check.due("S7 are that digit", Use.loaded(start + "0".repeat(579) + "9;").hour(), 9);
        verdict("S7 580 nines", start + "9".repeat(580) + ";", "2 at 19");
        verdict("S7 60 behind zeros", start + "0".repeat(500) + "60;", "fine");
        verdict("S7 61 behind zeros", start + "0".repeat(500) + "61;", "2 at 19");
        verdict("S7 a digit and zeros", start + "1" + "0".repeat(500) + ";", "2 at 19");
    }

    private static void s7LastBytesOfTheBuffer() {
        verdict("S7 a statement in the last bytes", full("hours 9;"), "fine");
        verdict("S7 a name in the last bytes", full("baker abcd"), "1 at 600");
        verdict("S7 a name too long in the last bytes", full("baker abcde"), "2 at 595");
        verdict("S7 a name after bake in the last bytes", full("baker abcd 1 1;bake abcd"), "1 at 600");
        verdict("S7 a kind in the last bytes", full("auction rye"), "1 at 600");
        verdict("S7 a number in the last bytes", full("hours 60"), "1 at 600");
        verdict("S7 a number out of range in the last bytes", full("hours 61"), "2 at 598");
        verdict("S7 a word in the last bytes", full("hours"), "1 at 600");
        verdict("S7 a wrong token as the last byte", full("hours 9,"), "1 at 599");
        verdict("S7 a separator as the last byte", full("hours 9 "), "1 at 600");
    }

    private static String full(String last) {
        return M + " ".repeat(600 - M.length() - last.length()) + last;
    }

    // ---- section 7: names ----

    private static void s7NewNames() {
        for (String name : new String[] {"a", "z", "ab", "abc", "abcd", "zzzz", "rye", "roll", "bake"}) {
            LoafMarket m = Use.loaded(M + "baker " + name + " 1 1;");
            check.dueText("S7 the baker " + name, Use.bakerName(m, 0), name);
            m = Use.loaded(M + "customer " + name + " rye 1 1 1 1;");
            check.dueText("S7 the customer " + name, Use.customerName(m, 0), name);
        }
        for (String name : new String[] {"abcde", "market", "baker", "wheat", "zzzzzzzzz", "q".repeat(500)}) {
            verdict("S7 a new baker of more than 4 letters: " + name, M + "baker " + name + " 1 1;", "2 at 21");
            verdict("S7 a new customer of more than 4 letters: " + name, M + "customer " + name + " rye 1 1 1 1;", "2 at 24");
        }
        verdict("S7 a number is no name", M + "baker 1 1 1;", "1 at 21");
        verdict("S7 a semicolon is no name", M + "customer ;", "1 at 24");
    }

    private static void s7NamesTaken() {
        String two = M + "baker ann 1 1;customer cid rye 1 1 1 1;";
        int end = two.length();
        verdict("S7 a new baker named like a baker", two + "baker ann 1 1;", "3 at " + (end + 6));
        verdict("S7 a new baker named like a customer", two + "baker cid 1 1;", "3 at " + (end + 6));
        verdict("S7 a new customer named like a baker", two + "customer ann rye 1 1 1 1;", "3 at " + (end + 9));
        verdict("S7 a new customer named like a customer", two + "customer cid rye 1 1 1 1;", "3 at " + (end + 9));
        verdict("S7 a letter less", two + "baker an 1 1;", "fine");
        verdict("S7 a letter more", two + "customer cidd rye 1 1 1 1;", "fine");
        verdict("S7 other letters", two + "customer nna rye 1 1 1 1;baker dic 1 1;", "fine");
        verdict("S7 the last letter", two + "baker anm 1 1;", "fine");
        verdict("S7 a customer who left lost patience and the name", two + "hours 1;baker cid 1 1;", "fine");
        String sold = M + "baker ann 1 1;bake ann rye;hours 1;customer cid rye 1 20 20 9;auction rye;";
        verdict("S7 a customer who wants no more left the name", sold + "customer cid rye 1 1 1 1;", "fine");
        verdict("S7 the name of the last of ten", M + customers(10) + "hours 1;customer t rye 1 1 1 1;", "3 at " + (M + customers(10) + "hours 1;customer ").length());
        verdict("S7 the name of the last of three bakers", M + "baker a 1 1;baker b 1 1;baker c 1 1;baker c 1 1;", "3 at 57");
    }

    private static void s7NameAfterBake() {
        verdict("S7 bake without bakers", M + "bake a rye;", "4 at 20");
        String two = M + "baker ann 1 1;baker bo 1 1;customer cid rye 1 1 1 1;";
        String at = "4 at " + (two.length() + 5);
        for (String name : new String[] {"an", "anna", "nna", "b", "bob", "cid", "rye", "abcde", "annnn", "wheat"}) {
            verdict("S7 bake " + name, two + "bake " + name + " rye;", at);
        }
        verdict("S7 bake the first", two + "bake ann rye;", "fine");
        verdict("S7 bake the last", two + "bake bo wheat;", "fine");
        verdict("S7 a number after bake", two + "bake 1 rye;", "1 at " + (two.length() + 5));
        verdict("S7 bake before the baker comes", M + "bake ann rye;baker ann 1 1;", "4 at 20");
    }

    // ---- section 7: room ----

    private static void s7FourBakers() {
        String three = M + "baker a 1 1;baker b 1 1;baker c 1 1;";
        verdict("S7 three bakers", three, "fine");
        String four = three + "baker d 1 1;";
        verdict("S7 four bakers", four, "fine");
        check.due("S7 four bakers count", Use.loaded(four).bakerCount(), 4);
        verdict("S7 the fifth baker", four + "baker e 1 1;", "5 at " + four.length());
        verdict("S7 the fifth baker's word alone", four + "baker", "5 at " + four.length());
        verdict("S7 the fifth baker's wrong rest", four + "baker + 1 1;", "5 at " + four.length());
        verdict("S7 four bakers and a customer", four + "customer e rye 1 1 1 1;", "fine");
        verdict("S7 baker where it is not allowed", four + "hours baker", "1 at " + (four.length() + 6));
    }

    private static void s7TenCustomers() {
        verdict("S7 nine customers", M + customers(9), "fine");
        String ten = M + customers(10);
        verdict("S7 ten customers", ten, "fine");
        verdict("S7 the eleventh", ten + "customer a rye 1 1 1 1;", "5 at " + ten.length());
        verdict("S7 the eleventh's word alone", ten + "customer", "5 at " + ten.length());
        verdict("S7 the eleventh's wrong rest", ten + "customer 1 1;", "5 at " + ten.length());
        verdict("S7 ten customers and a baker", ten + "baker a 1 1;", "fine");
        verdict("S7 the eleventh when one has left", ten + "hours 1;customer a rye 1 1 1 1;", "fine");
        String again = ten + "hours 1;customer a rye 1 1 1 1;";
        verdict("S7 but not the twelfth", again + "customer b rye 1 1 1 1;", "5 at " + again.length());
        check.due("S7 the eleventh has ticket 10", Use.loaded(again).ticketOf(9), 10);
    }

    private static void s7SemicolonOfBake() {
        String one = M + "baker a 1 2;bake a rye;";
        int end = one.length();
        verdict("S7 bakes already", one + "bake a rye;", "6 at " + (end + 10));
        verdict("S7 bakes already, another kind", one + "bake a roll  ;", "6 at " + (end + 13));
        verdict("S7 bakes in its last hour", one + "hours 1;bake a rye;", "6 at " + (end + 18));
        verdict("S7 bakes no more", one + "hours 2;bake a rye;", "fine");
        verdict("S7 no semicolon", one + "bake a rye", "1 at " + (end + 10));
        verdict("S7 another token than the semicolon", one + "bake a rye,", "1 at " + (end + 10));
        String most = "market 99 1 1;baker a 12 1;baker b 11 1;baker c 1 1;baker d 2 1;"
                + "bake a rye;hours 1;bake a rye;hours 1;bake a rye;hours 1;bake a rye;hours 1;";
        verdict("S7 48 in stock and 12", most + "bake a rye;", "fine");
        verdict("S7 48 in stock, 11 in an oven and 1: 60", most + "bake b rye;bake c rye;", "fine");
        verdict("S7 48 in stock, 11 in an oven and 2: 61", most + "bake b rye;bake d rye;", "6 at " + (most.length() + 21));
        verdict("S7 59 in stock and 1: 60", most + "bake b rye;hours 1;bake c rye;", "fine");
        verdict("S7 59 in stock and 2: 61", most + "bake b rye;hours 1;bake d rye;", "6 at " + (most.length() + 29));
        verdict("S7 60 in stock and 1: 61", most + "bake a rye;hours 1;bake c rye;", "6 at " + (most.length() + 29));
    }

    // ---- section 7: which error, and the order ----

    private static void s7FirstErrorAndSmallestCode() {
        verdict("S7 the first of two errors", M + "hours 61;baker abcde 1 1;", "2 at 21");
        verdict("S7 the first, though its code is greater", M + "bake a rye;hours x;", "4 at 20");
        verdict("S7 in one statement", M + "baker a 13 10;", "2 at 23");
        verdict("S7 a name taken before a number out of range", M + "baker a 1 1;baker a 0 1;", "3 at 33");
        verdict("S7 a name too long before a number out of range", M + "customer abcde rye 0 1 1 1;", "2 at 24");
        verdict("S7 baker first, and no room is not asked", "baker", "1 at 0");
        verdict("S7 a semicolon too early, before the baker is asked", M + "baker a 1 1;bake a rye;bake a;", "1 at 44");
        verdict("S7 a name too long whose first letters are taken", M + "baker abcd 1 1;baker abcde 1 1;", "2 at 36");
    }

    private static void s7OrderOfTheText() {
        check.due("S7 hours before the customer", Use.loaded(M + "hours 5;customer a rye 1 1 1 3;").patience(0), 3);
        check.due("S7 hours after the customer", Use.loaded(M + "customer a rye 1 1 1 3;hours 2;").patience(0), 1);
        check.due("S7 hours add up", Use.loaded(M + "hours 60;hours 0;hours 60;").hour(), 120);
        LoafMarket m = Use.loaded(M + "sparrows 9 999;sparrows 3 4;");
        check.due("S7 sparrows sets, it does not add", m.sparrows() * 1000 + m.crumbs(), 3004);
        String baked = "market 9 9 9;baker a 3 1;bake a rye;hours 1;";
        check.due("S7 an auction before the customer", Use.loaded(baked + "auction rye;customer b rye 1 9 9 9;").loafCount(), 3);
        check.due("S7 an auction after the customer", Use.loaded(baked + "customer b rye 1 9 9 9;auction rye;").loafCount(), 2);
        check.due("S7 an auction of another kind", Use.loaded(baked + "customer b rye 1 9 9 9;auction wheat;auction roll;").loafCount(), 3);
        check.due("S7 bakers by the order of the text", Use.loaded(M + "baker b 2 1;baker a 1 1;").ovenSize(0), 2);
    }

    private static void verdict(String what, String text, String due) {
        check.dueText(what + ": " + text, Use.verdict(text), due);
    }
}
