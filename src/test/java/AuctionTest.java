/** Promises 34 to 40, 52 and 54, and section 4: the auctions. */
public final class AuctionTest {
    private static final Check check = new Check("AuctionTest");

    public static void main(String[] args) {
        wrongInputs();
        reasons();
        eachQuestionAlone();
        orderOfBids();
        orderOfLoaves();
        price();
        pursesLimitTheBids();
        effects();
        largest();
        soldShare();
        check.end();
    }

    private static void wrongInputs() {
        LoafMarket m = new LoafMarket();
        for (int wrong : new int[] {-1, 3, Integer.MIN_VALUE, Integer.MAX_VALUE}) {
            check.dueIndex("bidCount " + wrong, () -> m.bidCount(wrong));
            check.dueIndex("tradeCount " + wrong, () -> m.tradeCount(wrong));
            check.dueIndex("clearingPrice " + wrong, () -> m.clearingPrice(wrong));
            check.dueIndex("reasonNoTrades " + wrong, () -> m.reasonNoTrades(wrong));
            check.dueIndex("gain " + wrong, () -> m.gain(wrong));
            check.dueIndex("auction " + wrong, () -> m.auction(wrong));
            check.dueIndex("buyerOf " + wrong, () -> m.buyerOf(wrong, 0));
            check.dueIndex("loafOf " + wrong, () -> m.loafOf(wrong, 0));
            check.dueIndex("buyerOf twice wrong " + wrong, () -> m.buyerOf(wrong, -1));
            check.dueIndex("loafOf twice wrong " + wrong, () -> m.loafOf(wrong, -1));
        }
        for (int wrong : new int[] {-1, 2, 60, 90, Integer.MIN_VALUE, Integer.MAX_VALUE}) {
            check.dueElement("buyerOf(0, " + wrong + ")", () -> m.buyerOf(0, wrong));
            check.dueElement("loafOf(0, " + wrong + ")", () -> m.loafOf(0, wrong));
        }
        check.dueElement("buyerOf(1, 0)", () -> m.buyerOf(1, 0));
        check.dueElement("loafOf(2, 0)", () -> m.loafOf(2, 0));
        check.due("undoDepth", m.undoDepth(), 0);
    }

    private static void reasons() {
        LoafMarket none = Use.loaded("market 9 9 9;baker a 1 1;bake a wheat;hours 1;bake a roll;hours 1;customer c rye 1 99 99 9;customer d roll 1 8 99 9;");
        check.due("no rye loaves", none.reasonNoTrades(0), 1);
        check.due("no bids for wheat", none.reasonNoTrades(1), 2);
        check.due("the bid for a roll is too low", none.reasonNoTrades(2), 3);
        for (int kind = 0; kind < 3; kind++) {
            check.due("tradeCount " + kind, none.tradeCount(kind), 0);
            check.due("clearingPrice " + kind, none.clearingPrice(kind), -1);
            check.due("gain " + kind, none.gain(kind), 0);
            check.due("auction " + kind, none.auction(kind), 0);
            check.due("undoDepth " + kind, none.undoDepth(), kind + 2);
        }
        check.dueText("events", Use.events(none), "0:0:1 0:0:1");
        check.due("customers", none.customerCount(), 2);
        LoafMarket empty = Use.loaded("market 9 9 9;");
        check.due("neither loaves nor bids", empty.reasonNoTrades(0), 1);
        LoafMarket equal = Use.loaded("market 9 9 9;baker a 1 1;bake a rye;hours 1;customer c rye 1 9 9 9;");
        check.due("a bid as high as the reserve price", equal.reasonNoTrades(0), 0);
        check.due("one trade", equal.tradeCount(0), 1);
        check.due("its price", equal.clearingPrice(0), 9);
        check.due("its gain", equal.gain(0), 0);
    }

    /** Before each question one of another kind is asked. */
    private static void eachQuestionAlone() {
        LoafMarket m = new LoafMarket();
        int[][] due = {{2, 2, 20, 0, 10}, {0, 0, -1, 2, 0}, {4, 0, -1, 3, 0}};
        for (int kind = 0; kind < 3; kind++) {
            int other = (kind + 1) % 3;
            m.gain(other);
            check.due("bidCount " + kind, m.bidCount(kind), due[kind][0]);
            m.bidCount(other);
            check.due("tradeCount " + kind, m.tradeCount(kind), due[kind][1]);
            m.bidCount(other);
            check.due("clearingPrice " + kind, m.clearingPrice(kind), due[kind][2]);
            m.bidCount(other);
            check.due("reasonNoTrades " + kind, m.reasonNoTrades(kind), due[kind][3]);
            m.bidCount(other);
            check.due("gain " + kind, m.gain(kind), due[kind][4]);
        }
        m.bidCount(1);
        check.due("buyerOf(0, 1)", m.buyerOf(0, 1), 1);
        m.bidCount(1);
        check.due("loafOf(0, 1)", m.loafOf(0, 1), 4);
        m.bidCount(0);
        check.dueElement("buyerOf(1, 0)", () -> m.buyerOf(1, 0));
        m.bidCount(0);
        check.dueElement("loafOf(1, 0)", () -> m.loafOf(1, 0));
        m.tradesAfter(0, 99);
        check.due("after a question about the future", m.tradeCount(0), 2);
        // the first question to a new object
        check.due("gain", new LoafMarket().gain(0), 10);
        check.due("buyerOf", new LoafMarket().buyerOf(0, 0), 1);
        check.due("loafOf", new LoafMarket().loafOf(0, 0), 3);
        check.due("reasonNoTrades", new LoafMarket().reasonNoTrades(2), 3);
    }

    private static void orderOfBids() {
        LoafMarket m = Use.loaded("market 1 1 1;baker a 12 1;bake a rye;hours 1;"
                + "customer f rye 2 5 99 9;customer b rye 2 7 99 9;customer c wheat 9 99 999 9;customer d rye 1 5 99 9;customer e rye 1 9 99 9;");
        check.due("bidCount", m.bidCount(0), 6);
        check.due("bidCount of wheat", m.bidCount(1), 9);
        check.due("tradeCount", m.tradeCount(0), 6);
        int[] buyers = {4, 1, 1, 0, 0, 3};
        for (int i = 0; i < 6; i++) {
            check.due("buyerOf " + i, m.buyerOf(0, i), buyers[i]);
            check.due("loafOf " + i, m.loafOf(0, i), i);
        }
        check.due("gain", m.gain(0), 9 + 14 + 15 - 6);
        check.due("price", m.clearingPrice(0), 1);
    }

    private static void orderOfLoaves() {
        // wheat at 20 loses one coin an hour: the later loaves are dearer
        LoafMarket m = Use.loaded("market 20 20 20;baker a 2 1;baker b 1 1;bake a wheat;hours 1;bake b rye;hours 1;bake a wheat;bake b wheat;hours 1;customer c wheat 9 20 180 9;");
        check.dueText("stock", Use.stock(m), "1:0:2 1:0:2 0:1:1 1:0:0 1:0:0 1:1:0");
        int[] loaves = {0, 1, 3, 4, 5};
        for (int i = 0; i < 5; i++) {
            check.due("loafOf " + i, m.loafOf(1, i), loaves[i]);
        }
        check.due("gain", m.gain(1), 4);
        check.due("price: the sixth bid", m.clearingPrice(1), 20);
        // a lower base price makes an old rye loaf stale before its time
        LoafMarket rye = Use.loaded("market 9 1 1;baker a 1 1;bake a rye;hours 1;hours 25;bake a rye;hours 1;customer c rye 1 1 1 9;");
        rye.setBasePrice(0, 4);
        check.dueText("stock", Use.stock(rye), "0:0:26 0:0:0");
        check.due("reserve of the old loaf", rye.reservePrice(0), 0);
        check.due("reserve of the new loaf", rye.reservePrice(1), 4);
        check.due("one trade", rye.tradeCount(0), 1);
        check.due("the old loaf", rye.loafOf(0, 0), 0);
        check.due("the price is at least 1", rye.clearingPrice(0), 1);
        check.due("gain", rye.gain(0), 1);
        // equal reserve prices at different ages go by number
        LoafMarket mixed = Use.loaded("market 9 9 9;baker a 1 9;baker b 1 1;bake a roll;hours 5;bake b roll;hours 4;bake b roll;hours 1;customer c roll 3 9 99 9;");
        check.dueText("stock", Use.stock(mixed), "2:1:4 2:0:1 2:1:0");
        check.due("the roll of 4 hours first", mixed.loafOf(2, 0), 0);
        check.due("then by number", mixed.loafOf(2, 1), 1);
        check.due("and the last", mixed.loafOf(2, 2), 2);
    }

    private static void price() {
        String text = "market 10 10 10;baker a 3 1;bake a rye;hours 1;";
        // all loaves sold, and a further bid sets the price
        LoafMarket bid = Use.loaded(text + "customer b rye 3 20 99 9;customer c rye 1 15 99 9;");
        check.due("trades", bid.tradeCount(0), 3);
        check.due("the fourth bid", bid.clearingPrice(0), 15);
        check.due("gain", bid.gain(0), 30);
        // no further bid: the reserve price
        LoafMarket reserve = Use.loaded(text + "customer b rye 3 20 99 9;");
        check.due("the third reserve price", reserve.clearingPrice(0), 10);
        // a further bid below the reserve price
        LoafMarket low = Use.loaded(text + "customer b rye 2 20 99 9;customer c rye 1 9 99 9;");
        check.due("trades", low.tradeCount(0), 2);
        check.due("the second reserve price", low.clearingPrice(0), 10);
        // a further bid that lies between the reserve prices of the last loaf sold and the next one
        LoafMarket between = Use.loaded("market 20 20 20;baker a 1 1;bake a wheat;hours 1;hours 9;bake a wheat;hours 1;customer b wheat 1 30 99 9;customer c wheat 1 15 99 9;");
        check.due("the reserve prices", between.reservePrice(0) * 100 + between.reservePrice(1), 1020);
        check.due("trades", between.tradeCount(1), 1);
        check.due("the second bid, above the first reserve price", between.clearingPrice(1), 15);
        check.due("gain", between.gain(1), 20);
    }

    private static void pursesLimitTheBids() {
        LoafMarket m = Use.loaded("market 1 1 1;customer a rye 9 10 59 9;customer b wheat 2 10 59 9;customer c roll 9 10 9 9;customer d roll 9 10 10 9;");
        check.due("59 coins at 10", m.bidCount(0), 5);
        check.due("two wanted", m.bidCount(1), 2);
        check.due("9 coins at 10, and 10 coins at 10", m.bidCount(2), 1);
    }

    private static void effects() {
        LoafMarket m = Use.loaded("market 10 10 10;baker a 2 1;baker b 2 1;bake a roll;bake b roll;hours 1;bake a rye;hours 1;"
                + "customer c roll 1 12 50 9;customer d rye 1 10 10 9;customer e roll 2 14 28 9;customer f roll 1 11 50 9;customer g roll 5 13 26 9;");
        check.due("bids", m.bidCount(2), 6);
        check.due("price", m.clearingPrice(2), 12);
        check.due("gain", m.gain(2), 54 - 40);
        check.due("auction", m.auction(2), 4);
        // e pays for both, g for two of five; c and f do not buy
        check.dueText("the queue", Use.queue(m), "c*1o@12 d*1r@10 f*1o@11 g*3o@13");
        check.due("income of a", m.income(0), 24);
        check.due("income of b", m.income(1), 24);
        check.due("the purse of g", m.purse(3), 2);
        check.due("the purse of c", m.purse(0), 50);
        check.dueText("the stock", Use.stock(m), "0:0:0 0:0:0");
        check.due("crumbs of four rolls", m.crumbs(), 12);
        check.dueText("events", Use.events(m), "0:0:2 0:1:2 0:0:2 1:2:12 3:2:0");
        check.due("auction of rye", m.auction(0), 1);
        check.due("a crumb of rye", m.crumbs(), 13);
        check.dueText("the later loaf moves up", Use.stock(m), "0:0:0");
        check.dueText("events", Use.events(m), "0:0:2 0:1:2 0:0:2 1:2:12 3:2:0 1:0:10 3:1:0");
        check.due("moneyDifference", m.moneyDifference(), 0);
        check.due("loafDifference", m.loafDifference(), 0);
        check.due("hour", m.hour(), 2);
        // several leave at once, in the order of the queue and not of the bids
        LoafMarket three = Use.loaded("market 1 1 1;baker a 12 1;bake a wheat;hours 1;customer x wheat 1 5 9 9;customer y wheat 2 7 99 9;customer z wheat 1 6 9 9;");
        check.due("auction", three.auction(1), 4);
        check.dueText("events", Use.events(three), "0:0:12 1:1:1 3:0:0 3:1:0 3:2:0");
        check.due("crumbs of wheat", three.crumbs(), 8);
        check.due("nobody is left", three.customerCount(), 0);
        check.due("moneyDifference", three.moneyDifference(), 0);
        // one with no purse left stays
        LoafMarket poor = Use.loaded("market 5 5 5;baker a 4 1;bake a rye;hours 1;customer x rye 9 5 10 9;");
        check.due("auction", poor.auction(0), 2);
        check.due("still wanted", poor.wanted(0), 7);
        check.due("the purse is empty", poor.purse(0), 0);
        check.due("no bids any more", poor.reasonNoTrades(0), 2);
    }

    private static void largest() {
        StringBuilder text = new StringBuilder("market 9 9 9;baker a 12 1;baker b 12 1;baker c 12 1;baker d 12 1;bake a roll;bake b roll;bake c roll;bake d roll;hours 1;bake a roll;hours 1;");
        for (int i = 0; i < 10; i++) {
            text.append("customer ").append((char) ('m' + i)).append(" roll 9 99 999 99;");
        }
        LoafMarket m = Use.loaded(text.toString());
        check.due("loaves", m.loafCount(), 60);
        check.due("bids", m.bidCount(2), 90);
        check.due("trades", m.tradeCount(2), 60);
        check.due("price", m.clearingPrice(2), 99);
        check.due("gain", m.gain(2), 60 * 90);
        check.due("the last buyer", m.buyerOf(2, 59), 6);
        check.due("the last loaf", m.loafOf(2, 59), 59);
        check.dueElement("no further trade", () -> m.loafOf(2, 60));
        check.due("auction", m.auction(2), 60);
        check.due("loaves", m.loafCount(), 0);
        check.due("customers", m.customerCount(), 4);
        check.due("the seventh wants three loaves", m.wanted(0), 3);
        check.due("crumbs", m.crumbs(), 180);
        check.due("income", m.income(0), 24 * 99);
        check.due("moneyDifference", m.moneyDifference(), 0);
    }

    private static void soldShare() {
        check.dueD("none baked", Use.loaded("market 1 1 1;baker a 1 2;bake a rye;hours 1;").soldShare(), 0.0f);
        LoafMarket m = new LoafMarket();
        check.dueD("none sold", m.soldShare(), 0.0f);
        m.auction(0);
        check.dueD("2 of 10", m.soldShare(), 2.0f / 10.0f);
        m.bake(1, 0);
        m.passHours(1);
        check.dueD("2 of 13", m.soldShare(), 2.0f / 13.0f);
        m.passHours(60);
        check.dueD("wasted ones count as baked", m.soldShare(), 2.0f / 13.0f);
    }
}
