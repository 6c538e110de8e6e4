/** Promises 2 to 6 and section 7: the input buffer, load and its errors. */
public final class InputTest {
    private static final Check check = new Check("InputTest");
    private static final String M = "market 20 10 8;";

    public static void main(String[] args) {
        buffer();
        loadEmptiesTheBuffer();
        errorsOfTheFrame();
        errorsOfNumbers();
        errorsOfNames();
        errorsOfRoom();
        errorsOfBake();
        tokens();
        effects();
        longestText();
        check.end();
    }

    private static void buffer() {
        LoafMarket m = new LoafMarket();
        check.due("length of the new buffer", m.truncateInput(0), 0);
        check.dueArgument("truncateInput(1) of an empty buffer", () -> m.truncateInput(1));
        check.dueArgument("truncateInput(-1)", () -> m.truncateInput(-1));
        for (int i = 1; i <= 30; i++) {
            check.due("appendInput " + i, m.appendInput(1, 2, 3, 4, 5), 20 * i);
        }
        check.dueState("appendInput to 620", () -> m.appendInput(0, 0, 0, 0, 0));
        check.dueArgument("truncateInput(601)", () -> m.truncateInput(601));
        check.due("truncateInput(600)", m.truncateInput(600), 600);
        check.due("truncateInput(581)", m.truncateInput(581), 581);
        check.dueState("appendInput to 601", () -> m.appendInput(0, 0, 0, 0, 0));
        check.due("truncateInput(580)", m.truncateInput(580), 580);
        check.due("appendInput to 600", m.appendInput(0, 0, 0, 0, 0), 600);
        check.due("truncateInput(7)", m.truncateInput(7), 7);
        check.dueArgument("truncateInput(8) of 7", () -> m.truncateInput(8));
        check.due("appendInput to 27", m.appendInput(0, 0, 0, 0, 0), 27);
        LoafMarket order = new LoafMarket();
        // "market 1 2 3;baker a" by bytes, the most significant first
        order.appendInput(0x6d61726b, 0x65742031, 0x20322033, 0x3b62616b, 0x65722061);
        order.appendInput(0x20312031, 0x3b000000, -1, -1, -1);
        order.truncateInput(25);
        check.due("load of bytes", order.load(), 0);
        check.due("ovenSize", order.ovenSize(0), 1);
        check.due("basePrice(2)", order.basePrice(2), 3);
        LoafMarket high = new LoafMarket();
        high.appendInput(0x6d61726b, 0x65742031, 0x20322033, 0x3bffffff, 0);
        check.dueArgument("load with byte 255", high::load);
        check.due("errorCode of byte 255", high.errorCode(), 1);
        check.due("errorPosition of byte 255", high.errorPosition(), 13);
    }

    private static void loadEmptiesTheBuffer() {
        LoafMarket m = new LoafMarket();
        check.due("errorCode before load", m.errorCode(), 0);
        check.due("errorPosition before load", m.errorPosition(), -1);
        Use.feed(m, M + "baker x 1 1 1;");
        String before = Use.state(m);
        check.dueArgument("load with an error", m::load);
        check.due("errorCode", m.errorCode(), 1);
        check.due("errorPosition", m.errorPosition(), 27);
        check.dueText("state after a load with an error", Use.state(m), before);
        check.due("undoDepth after a load with an error", m.undoDepth(), 0);
        check.dueArgument("the buffer is empty after an error", () -> m.truncateInput(1));
        Use.feed(m, M + "customer cy rye 1 1 1 1;customer cz rye 1 1 1 1;");
        check.due("load answers the queue", m.load(), 2);
        check.due("errorCode after success", m.errorCode(), 0);
        check.due("errorPosition after success", m.errorPosition(), -1);
        check.dueArgument("the buffer is empty after success", () -> m.truncateInput(1));
        check.dueArgument("load of an empty buffer", m::load);
        check.due("errorCode of an empty text", m.errorCode(), 1);
        check.due("errorPosition of an empty text", m.errorPosition(), 0);
        m.undo();
        check.due("undo leaves the error", m.errorCode(), 1);
        check.due("undo leaves the error position", m.errorPosition(), 0);
        check.dueText("undo of load", Use.state(m), before);
    }

    private static void errorsOfTheFrame() {
        error("", 1, 0);
        error("   \n ", 1, 5);
        error("baker a 1 1;", 1, 0);
        error(" markets 1 1 1;", 1, 1);
        error("marke 1 1 1;", 1, 0);
        error("market 1 1 1", 1, 12);
        error("market 1 1 1  ", 1, 14);
        error("market 1 1;", 1, 10);
        error("market rye 1 1;", 1, 7);
        error("xarket 1 1 1;", 1, 0);
        for (String word : new String[] {"market", "baker", "bake", "customer", "auction", "sparrows", "hours"}) {
            for (int i = 0; i < word.length(); i++) {
                error(M + word.substring(0, i) + "q" + word.substring(i + 1) + " 1 1 1 ;", 1, 15);
            }
            error(M + word + "s 1;", 1, 15);
        }
        for (String word : new String[] {"rye", "wheat", "roll"}) {
            for (int i = 0; i < word.length(); i++) {
                error(M + "auction " + word.substring(0, i) + "q" + word.substring(i + 1) + ";", 1, 23);
            }
            error(M + "auction " + word.substring(1) + ";", 1, 23);
            error(M + "auction " + word + "q;", 1, 23);
        }
        error("market 1 1 1 1;", 1, 13);
        error("market 1 1 1:", 1, 12);
        error(M + M, 1, 15);
        error(M + ";", 1, 15);
        error(M + "7", 1, 15);
        error(M + "rye", 1, 15);
        error(M + "baker", 1, 20);
        error(M + "baker a 1 1", 1, 26);
        error(M + "baker a 1;", 1, 24);
        error(M + "auction", 1, 22);
        error(M + "auction rye", 1, 26);
        error(M + "auction ryes;", 1, 23);
        error(M + "auction 0;", 1, 23);
        error(M + "auction ;", 1, 23);
        error(M + "customer a 1 1 1 1;", 1, 26);
        error(M + "baker a 1 1;bake a ;", 1, 34);
        error(M + "auction rye rye;", 1, 27);
        error(M + "hours;", 1, 20);
        error(M + "hours x;", 1, 21);
        error(M + "hours 1 2;", 1, 23);
        error(M + "hours -1;", 1, 21);
        error(M + "sparrows 1;", 1, 25);
        error(M + "sparrows 1 1 1;", 1, 28);
        error(M + "customer a rye 1 1 1;", 1, 35);
        error(M + "customer a bun 1 1 1 1;", 1, 26);
        error(M + "customer a rye 1 1 1 1 1;", 1, 38);
        error(M + "Hours 1;", 1, 15);
        error(M + "\thours 1;", 1, 15);
        error(M + "\r\nhours 1;", 1, 15);
        error(M + "hours 1;\0", 1, 23);
        error(M + "market", 1, 15);
        fine("market 1 1 1;");
        fine("\n market\n1\n1 1 \n;\n ");
        fine(M + "hours 0;");
    }

    private static void errorsOfNumbers() {
        error("market 0 1 1;", 2, 7);
        error("market 1 100 1;", 2, 9);
        error("market 1 1 0;", 2, 11);
        error("market 1 0 1;", 2, 9);
        error("market 100 1 1;", 2, 7);
        error("market 1 1 100;", 2, 11);
        fine("market 99 99 99;");
        error(M + "baker a 0 1;", 2, 23);
        error(M + "baker a 13 1;", 2, 23);
        error(M + "baker a 12 0;", 2, 26);
        error(M + "baker a 12 10;", 2, 26);
        fine(M + "baker a 12 9;");
        error(M + "customer a rye 0 1 1 1;", 2, 30);
        error(M + "customer a rye 10 1 1 1;", 2, 30);
        error(M + "customer a rye 9 0 1 1;", 2, 32);
        error(M + "customer a rye 9 100 1 1;", 2, 32);
        error(M + "customer a rye 9 99 1000 1;", 2, 35);
        error(M + "customer a rye 9 99 999 0;", 2, 39);
        error(M + "customer a rye 9 99 999 100;", 2, 39);
        fine(M + "customer a rye 9 99 999 99;");
        fine(M + "customer a rye 1 1 0 1;");
        error(M + "sparrows 10 0;", 2, 24);
        error(M + "sparrows 9 1000;", 2, 26);
        fine(M + "sparrows 9 999;");
        fine(M + "sparrows 0 0;");
        error(M + "hours 61;", 2, 21);
        fine(M + "hours 60;");
        error(M + "hours 4294967297;", 2, 21);
        error(M + "hours 18446744073709551617;", 2, 21);
        error(M + "hours 99999999999999999999999999999999999999999;", 2, 21);
        fine(M + "hours 000000000000000000000000000000000000060;");
        error(M + "hours 00000061;", 2, 21);
        // the number has an error before the rest is read
        error(M + "hours 61 x", 2, 21);
    }

    private static void errorsOfNames() {
        error(M + "baker abcde 1 1;", 2, 21);
        error(M + "customer abcde rye 1 1 1 1;", 2, 24);
        fine(M + "baker abcd 1 1;");
        fine(M + "customer abcd rye 1 1 1 1;");
        error(M + "baker 7 1 1;", 1, 21);
        error(M + "baker ;", 1, 21);
        error(M + "customer A rye 1 1 1 1;", 1, 24);
        String two = M + "baker ann 1 1;customer cid rye 1 1 1 1;";
        error(two + "baker ann 1 1;", 3, two.length() + 6);
        error(two + "baker cid 1 1;", 3, two.length() + 6);
        error(two + "customer ann rye 1 1 1 1;", 3, two.length() + 9);
        error(two + "customer cid rye 1 1 1 1;", 3, two.length() + 9);
        fine(two + "baker an 1 1;customer ci rye 1 1 1 1;baker anna 1 1;");
        // cid has left after an hour, so that the name is free again
        fine(two + "hours 1;customer cid rye 1 1 1 1;");
        fine(two + "hours 1;baker cid 1 1;");
        // the words of the text can be names
        LoafMarket m = Use.loaded(M + "baker bake 1 1;baker rye 1 1;bake bake rye;bake rye roll;customer roll roll 1 1 1 1;");
        check.dueText("the name bake", Use.bakerName(m, 0), "bake");
        check.dueText("the name rye", Use.bakerName(m, 1), "rye");
        check.dueText("the name roll", Use.customerName(m, 0), "roll");
    }

    private static void errorsOfRoom() {
        String four = M + "baker a 1 1;baker b 1 1;baker c 1 1;baker d 1 1;";
        fine(four);
        error(four + "baker e 1 1;", 5, four.length());
        error(four + "baker", 5, four.length());
        StringBuilder ten = new StringBuilder(M);
        for (int i = 0; i < 10; i++) {
            ten.append("customer ").append((char) ('a' + i)).append(" rye 1 1 1 ").append(1 + i % 2).append(';');
        }
        fine(ten.toString());
        error(ten + "customer x rye 1 1 1 1;", 5, ten.length());
        error(ten + "customer", 5, ten.length());
        fine(ten + "hours 1;customer x rye 1 1 1 1;");
    }

    private static void errorsOfBake() {
        String text = M + "baker a 1 2;customer c rye 1 1 1 9;";
        int at = text.length();
        error(text + "bake b rye;", 4, at + 5);
        error(text + "bake c rye;", 4, at + 5);
        error(text + "bake abcde rye;", 4, at + 5);
        error(text + "bake 1 rye;", 1, at + 5);
        error(text + "bake", 1, at + 4);
        error(text + "bake a", 1, at + 6);
        error(text + "bake a bun;", 1, at + 7);
        error(text + "bake a rye", 1, at + 10);
        error(text + "bake a rye.", 1, at + 10);
        error(text + "bake a rye;bake a rye;", 6, at + 21);
        error(text + "bake a rye;bake a wheat ;", 6, at + 24);
        error(text + "bake a rye;hours 1;bake a rye;", 6, at + 29);
        error(text + "bake a rye;bake a rye", 1, at + 21);
        error(text + "bake a rye;bake a rye rye", 1, at + 22);
        fine(text + "bake a rye;hours 2;bake a rye;");
        String full = "market 99 99 99;baker a 12 1;baker b 12 1;bake a rye;bake b rye;hours 1;bake a rye;bake b rye;hours 1;";
        fine(full + "bake a rye;");
        error(full + "bake a rye;bake b rye;", 6, full.length() + 21);
    }

    private static void tokens() {
        LoafMarket m = Use.loaded("market20 10\n8;baker ann12 9;hours007;");
        check.due("hour", m.hour(), 7);
        check.due("ovenSize", m.ovenSize(0), 12);
        check.due("basePrice(0)", m.basePrice(0), 20);
        error("market 1 1 1;hours1x;", 1, 19);
        error("mar ket 1 1 1;", 1, 0);
        error("market 1 1 1;ho\nurs 1;", 1, 13);
        error("market 1_1 1;", 1, 8);
        error("market 1 1 1;hours {;", 1, 19);
        error("market 1 1 1;hours `1;", 1, 19);
        error("market 1 1 1;hours /1;", 1, 19);
        error("market 1 1 1;hours :1;", 1, 19);
        error("market 1 1 1;\u00e9", 1, 13);
    }

    private static void effects() {
        LoafMarket m = Use.loaded("market 20 10 8;baker ann 4 2;bake ann wheat;sparrows 3 50;hours 2;customer eve wheat 2 30 100 7;customer fay rye 1 2 3 4;auction wheat;hours 0;");
        check.due("hour", m.hour(), 2);
        check.due("loafCount", m.loafCount(), 2);
        check.due("income", m.income(0), 20);
        check.due("customerCount", m.customerCount(), 1);
        check.due("ticketOf(0)", m.ticketOf(0), 1);
        check.dueText("events", Use.events(m), "0:0:4 1:1:10 3:0:0");
        // 50 - 9 and one more sparrow, 41 - 12 and one more, then two wheat loaves sold
        check.due("crumbs", m.crumbs(), 33);
        check.due("sparrows", m.sparrows(), 5);
        check.due("basePrice(1)", m.basePrice(1), 10);
        Use.feed(m, "market 1 2 3;");
        check.due("load", m.load(), 0);
        check.dueText("a load starts afresh", Use.state(m), "0 0 0 base 1 2 3 |  |  | 0.0 0 0");
        check.due("tickets start at 0", Use.join(m, "z", 0, 1, 1, 1, 1), 0);
        LoafMarket one = Use.loaded("market 1 2 3;sparrows 1 999;sparrows 4 5;");
        check.due("the second sparrows statement", one.sparrows() * 1000 + one.crumbs(), 4005);
        check.due("income is that since the latest load", Use.loaded(M + "baker ann 1 1;").income(0), 0);
    }

    private static void longestText() {
        StringBuilder text = new StringBuilder(M);
        while (text.length() + 9 <= 600) {
            text.append("hours 60;");
        }
        int hours = 60 * ((text.length() - M.length()) / 9);
        LoafMarket m = Use.loaded(text + " ".repeat(600 - text.length()));
        check.due("hour after a text of 600 bytes", m.hour(), hours);
        error("market 1 1 1;hours " + "0".repeat(580) + "1", 1, 600);
        error("z".repeat(600), 1, 0);
        // the name is the last that fits into the buffer
        error(M + " ".repeat(575) + "baker abcd", 1, 600);
        error(M + " ".repeat(574) + "baker abcde", 2, 595);
    }

    private static void error(String text, int code, int position) {
        LoafMarket m = new LoafMarket();
        Use.feed(m, text);
        check.dueArgument("load of " + text, m::load);
        check.due("errorCode of " + text, m.errorCode(), code);
        check.due("errorPosition of " + text, m.errorPosition(), position);
        check.due("hour after " + text, m.hour(), 3);
    }

    private static void fine(String text) {
        LoafMarket m = new LoafMarket();
        Use.feed(m, text);
        try {
            check.due("load of " + text, m.load(), m.customerCount());
        } catch (IllegalArgumentException e) {
            check.dueText("load of " + text, m.errorCode() + " at " + m.errorPosition(), "no error");
        }
    }
}
