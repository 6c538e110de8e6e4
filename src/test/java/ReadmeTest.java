/** The examples of README.md, one after the other, on one object. */
public final class ReadmeTest {
    private static final Check check = new Check("ReadmeTest");

    public static void main(String[] args) {
        LoafMarket market = new LoafMarket();
        check.part("an object", () -> object(market));
        check.part("a text", () -> text(market));
        check.part("a name", () -> name(market));
        check.part("a refused call", () -> refused(market));
        check.part("slots and undo", () -> slotsAndUndo(market));
        check.end();
    }

    private static void object(LoafMarket market) {
        check.due("hour", market.hour(), 3);
        check.due("tradeCount", market.tradeCount(LoafMarket.RYE), 2);
        check.due("auction", market.auction(LoafMarket.RYE), 2);
        check.due("passHours", market.passHours(2), 0);
    }

    private static void text(LoafMarket market) {
        check.due("truncateInput to nothing", market.truncateInput(0), 0);
        check.due("appendInput", market.appendInput(0x6d61726b, 0x65742032, 0x30203130, 0x20383b00, 0), 20);
        check.due("truncateInput", market.truncateInput(15), 15);
        check.due("load", market.load(), 0);
        check.due("the buffer is empty", Use.inputLength(market), 0);
        check.due("the price of rye", market.basePrice(LoafMarket.RYE), 20);
        StringBuilder longest = new StringBuilder("market 7 8 9;");
        while (longest.length() < 600) {
            longest.append(' ');
        }
        LoafMarket other = new LoafMarket();
        put(other, longest.toString());
        check.due("load of 600 bytes", other.load(), 0);
        check.due("the price of a roll", other.basePrice(LoafMarket.ROLL), 9);
    }

    private static void put(LoafMarket market, String text) {
        market.truncateInput(0);
        for (int i = 0; i < text.length(); i += 20) {
            market.appendInput(word(text, i), word(text, i + 4), word(text, i + 8), word(text, i + 12), word(text, i + 16));
        }
        market.truncateInput(text.length());
    }

    private static int word(String text, int from) {
        int word = 0;
        for (int i = from; i < from + 4; i++) {
            word = word << 8 | (i < text.length() ? text.charAt(i) & 255 : 0);
        }
        return word;
    }

    private static void name(LoafMarket market) {
        put(market, "zoe");
        check.due("joinQueue", market.joinQueue(LoafMarket.ROLL, 2, 9, 30, 5), 0);
        check.dueText("the output", Use.queue(market), "zoe*2o@9");
    }

    private static void refused(LoafMarket market) {
        String before = Use.state(market);
        put(market, "market 20 10 8;hours 61;");
        check.dueArgument("load", market::load);
        check.due("errorCode", market.errorCode(), 2);
        check.due("errorPosition", market.errorPosition(), 21);
        check.due("the buffer is empty", Use.inputLength(market), 0);
        check.dueText("the market stays as it is", Use.state(market), before);
    }

    private static void slotsAndUndo(LoafMarket market) {
        check.due("save", market.save(0), 0);
        market.passHours(24);
        check.due("restore", market.restore(0), 0);
        check.due("nine crumbs", market.scatter(9), 9);
        int depth = market.undoDepth();
        check.due("undo of scatter", market.undo(), depth - 1);
        check.due("no crumbs", market.crumbs(), 0);
        check.due("undo of restore", market.undo(), depth - 2);
        check.due("24 hours later", market.hour(), 24);
        check.due("undo of passHours", market.undo(), depth - 3);
        check.due("the hour of the saved market", market.hour(), 0);
        check.dueState("restore of the empty slot", () -> market.restore(1));
    }
}
