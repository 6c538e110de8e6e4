/** The edges that promises 34 to 40, 52 and 54 and section 4 name: bids, trades, the price, crumbs. */
public final class EdgeAuctionTest {
    private static final Check check = new Check("EdgeAuctionTest");
    private static final int MIN = Integer.MIN_VALUE;
    private static final int MAX = Integer.MAX_VALUE;
    private static final String NO_LOAVES = "market 9 9 9;";
    /** Three rye loaves at 9. */
    private static final String THREE = "market 9 9 9;baker a 3 1;bake a rye;hours 1;";
    /** Wheat loaves whose reserve prices are 18, 19 and 20. */
    private static final String STEPS = "market 20 20 20;baker a 1 1;bake a wheat;hours 1;bake a wheat;hours 1;bake a wheat;hours 1;";

    public static void main(String[] args) {
        check.part("P34 P35 P36 P37 P38 P39 P40 P54", EdgeAuctionTest::kinds);
        check.part("P34", EdgeAuctionTest::p34Purses);
        check.part("P34", EdgeAuctionTest::p34Wanted);
        check.part("P34", EdgeAuctionTest::p34MostBids);
        check.part("S4", EdgeAuctionTest::s4OrderOfBids);
        check.part("S4", EdgeAuctionTest::s4OrderOfLoaves);
        check.part("P35", EdgeAuctionTest::p35Trades);
        check.part("S4 P36", EdgeAuctionTest::p36Price);
        check.part("P34 P35 P36 P37 P38 P39 P40", EdgeAuctionTest::p34to40EachQuestionAlone);
        check.part("S4 P37", EdgeAuctionTest::p37Reasons);
        check.part("P38 P39", EdgeAuctionTest::p38p39Trades);
        check.part("P40", EdgeAuctionTest::p40Gain);
        check.part("S4", EdgeAuctionTest::s4MoneyAndWants);
        check.part("S4", EdgeAuctionTest::s4Crumbs);
        check.part("S4", EdgeAuctionTest::s4WhoLeaves);
        check.part("P54", EdgeAuctionTest::p54Auction);
        check.part("P52", EdgeAuctionTest::p52SoldShare);
        check.end();
    }

    private static void kinds() {
        LoafMarket m = new LoafMarket();
        for (int wrong : new int[] {-1, 3, MIN, MAX}) {
            check.dueIndex("P34 bidCount of " + wrong, () -> m.bidCount(wrong));
            check.dueIndex("P35 tradeCount of " + wrong, () -> m.tradeCount(wrong));
            check.dueIndex("P36 clearingPrice of " + wrong, () -> m.clearingPrice(wrong));
            check.dueIndex("P37 reasonNoTrades of " + wrong, () -> m.reasonNoTrades(wrong));
            check.dueIndex("P38 buyerOf of " + wrong, () -> m.buyerOf(wrong, 0));
            check.dueIndex("P38 the kind is asked before the trade", () -> m.buyerOf(wrong, MIN));
            check.dueIndex("P39 loafOf of " + wrong, () -> m.loafOf(wrong, 0));
            check.dueIndex("P39 the kind is asked before the trade", () -> m.loafOf(wrong, MIN));
            check.dueIndex("P40 gain of " + wrong, () -> m.gain(wrong));
            check.dueIndex("P54 auction of " + wrong, () -> m.auction(wrong));
        }
        check.due("P34 the first kind", m.bidCount(0), 2);
        check.due("P34 the last kind", m.bidCount(2), 4);
        Twin.refusedIndex(check, "P36 clearingPrice(3)", Twin::rich, t -> t.clearingPrice(3));
        Twin.refusedIndex(check, "P54 auction(3)", Twin::rich, t -> t.auction(3));
        Twin.refusedIndex(check, "P54 auction(-1)", Twin::rich, t -> t.auction(-1));
    }

    // ---- bids ----

    private static void p34Purses() {
        int[][] due = {{0, 0}, {1, 0}, {9, 0}, {10, 1}, {11, 1}, {19, 1}, {20, 2}, {29, 2}, {30, 3}, {89, 8}, {90, 9}, {99, 9}, {100, 9}, {999, 9}};
        for (int[] d : due) {
            check.due("P34 a purse of " + d[0] + " at 10", Use.loaded(NO_LOAVES + "customer x rye 9 10 " + d[0] + " 9;").bidCount(0), d[1]);
        }
        check.due("P34 98 coins at 99", Use.loaded(NO_LOAVES + "customer x rye 9 99 98 9;").bidCount(0), 0);
        check.due("P34 no coins at 1", Use.loaded(NO_LOAVES + "customer x rye 9 1 0 9;").bidCount(0), 0);
        check.due("P34 one coin at 1", Use.loaded(NO_LOAVES + "customer x rye 9 1 1 9;").bidCount(0), 1);
    }

    private static void p34Wanted() {
        check.due("P34 a purse for one less than wanted", Use.loaded(NO_LOAVES + "customer x rye 3 10 29 9;").bidCount(0), 2);
        check.due("P34 a purse for as many as wanted", Use.loaded(NO_LOAVES + "customer x rye 3 10 30 9;").bidCount(0), 3);
        check.due("P34 a purse for one more than wanted", Use.loaded(NO_LOAVES + "customer x rye 3 10 40 9;").bidCount(0), 3);
        check.due("P34 one wanted", Use.loaded(NO_LOAVES + "customer x rye 1 1 999 9;").bidCount(0), 1);
        LoafMarket kinds = Use.loaded(NO_LOAVES + "customer x rye 1 1 999 9;customer y wheat 2 1 999 9;customer z roll 4 1 999 9;customer w roll 3 1 999 9;");
        check.due("P34 rye alone", kinds.bidCount(0), 1);
        check.due("P34 wheat alone", kinds.bidCount(1), 2);
        check.due("P34 rolls of two", kinds.bidCount(2), 7);
        check.due("P34 an empty queue", Use.loaded(THREE).bidCount(0), 0);
        LoafMarket less = Use.loaded(THREE + "customer x rye 5 9 45 9;auction rye;");
        check.due("P34 as many as are still wanted", less.bidCount(0), 2);
    }

    private static void p34MostBids() {
        StringBuilder text = new StringBuilder(NO_LOAVES);
        for (int i = 0; i < 10; i++) {
            text.append("customer ").append((char) ('k' + i)).append(" roll 9 ").append(i == 9 ? "99 891" : "99 999").append(" 9;");
        }
        check.due("P34 ten customers with nine bids each", Use.loaded(text.toString()).bidCount(2), 90);
    }

    private static void s4OrderOfBids() {
        LoafMarket m = Use.loaded("market 1 1 1;baker a 12 1;bake a rye;hours 1;customer p rye 1 5 99 9;customer q rye 2 6 99 9;customer r rye 1 5 99 9;customer s rye 1 7 99 9;customer t rye 1 6 99 9;");
        buyers(m, 0, 3, 1, 1, 4, 0, 2);
        m.sendAway(3);
        buyers(m, 0, 1, 1, 3, 0, 2);
        LoafMarket equal = Use.loaded("market 1 1 1;baker a 12 1;bake a rye;hours 1;customer p rye 2 5 99 9;customer q rye 2 5 99 9;customer r rye 2 5 99 9;");
        buyers(equal, 0, 0, 0, 1, 1, 2, 2);
        LoafMarket few = Use.loaded("market 1 1 1;baker a 3 1;bake a rye;hours 1;customer p rye 2 5 99 9;customer q rye 2 5 99 9;customer r rye 2 5 99 9;");
        buyers(few, 0, 0, 0, 1);
    }

    private static void buyers(LoafMarket m, int kind, int... due) {
        check.due("S4 trades", m.tradeCount(kind), due.length);
        for (int i = 0; i < due.length; i++) {
            check.due("S4 the buyer of trade " + i, m.buyerOf(kind, i), due[i]);
        }
    }

    private static void loaves(LoafMarket m, int kind, int... due) {
        check.due("S4 trades", m.tradeCount(kind), due.length);
        for (int i = 0; i < due.length; i++) {
            check.due("S4 the loaf of trade " + i, m.loafOf(kind, i), due[i]);
        }
    }

    private static void s4OrderOfLoaves() {
        String buys = "customer x wheat 9 20 180 9;";
        loaves(Use.loaded(STEPS + buys), 1, 0, 1, 2);
        // equal reserve prices, of equal and of other ages, with loaves of other kinds between them
        LoafMarket m = Use.loaded("market 9 9 9;baker a 1 1;baker b 2 1;bake a rye;bake b wheat;hours 1;bake b rye;bake a wheat;hours 1;customer x rye 9 9 99 9;");
        check.dueText("S4 the stock", Use.stock(m), "0:0:1 1:1:1 1:1:1 1:0:0 0:1:0 0:1:0");
        loaves(m, 0, 0, 4, 5);
        LoafMarket stale = Use.loaded("market 9 1 1;baker a 2 1;bake a rye;hours 1;hours 25;bake a rye;hours 1;customer x rye 3 4 99 9;");
        stale.setBasePrice(0, 2);
        check.due("S4 two at 0 and two at 2", stale.reservePrice(1) * 10 + stale.reservePrice(2), 2);
        loaves(stale, 0, 0, 1, 2);
    }

    // ---- trades and the price ----

    private static void p35Trades() {
        check.due("P35 no loaves", Use.loaded(NO_LOAVES + "customer x rye 9 99 999 9;").tradeCount(0), 0);
        check.due("P35 no bids", Use.loaded(THREE).tradeCount(0), 0);
        check.due("P35 the first bid is one below", trades("8"), 0);
        check.due("P35 the first bid is as high", trades("9"), 1);
        check.due("P35 the first bid is one above", trades("10"), 1);
        check.due("P35 as many bids as loaves", Use.loaded(THREE + "customer x rye 3 9 27 9;").tradeCount(0), 3);
        check.due("P35 one bid less", Use.loaded(THREE + "customer x rye 2 9 27 9;").tradeCount(0), 2);
        check.due("P35 one bid more", Use.loaded(THREE + "customer x rye 4 9 36 9;").tradeCount(0), 3);
        check.due("P35 the second bid is one below", Use.loaded(STEPS + "customer x wheat 2 18 99 9;").tradeCount(1), 1);
        check.due("P35 the second bid is as high", Use.loaded(STEPS + "customer x wheat 2 19 99 9;").tradeCount(1), 2);
        check.due("P35 the third bid is one below", Use.loaded(STEPS + "customer x wheat 3 19 99 9;").tradeCount(1), 2);
        check.due("P35 the third bid is as high", Use.loaded(STEPS + "customer x wheat 3 20 99 9;").tradeCount(1), 3);
        check.due("P35 the third of other bids is one below", Use.loaded(STEPS + "customer x wheat 2 30 99 9;customer y wheat 1 19 99 9;").tradeCount(1), 2);
        check.due("P35 another kind", Use.loaded(THREE + "customer x wheat 3 9 27 9;").tradeCount(0), 0);
    }

    private static int trades(String limit) {
        return Use.loaded(THREE + "customer x rye 1 " + limit + " 99 9;").tradeCount(0);
    }

    private static void price(String what, String text, int kind, int due) {
        check.due("S4 P36 " + what, Use.loaded(text).clearingPrice(kind), due);
    }

    private static void p36Price() {
        price("no loaves", NO_LOAVES + "customer x rye 1 9 9 9;", 0, LoafMarket.NONE);
        price("no bids", THREE, 0, LoafMarket.NONE);
        price("a bid one below", THREE + "customer x rye 1 8 9 9;", 0, LoafMarket.NONE);
        price("the reserve price, without a further bid", THREE + "customer x rye 3 20 99 9;", 0, 9);
        price("the reserve price of the last loaf that is sold, not of the first", STEPS + "customer x wheat 3 30 99 9;", 1, 20);
        price("nor of the next one", STEPS + "customer x wheat 1 30 99 9;", 1, 18);
        price("the further bid is below it", THREE + "customer x rye 2 20 99 9;customer y rye 1 8 99 9;", 0, 9);
        price("the further bid is as high", STEPS + "customer x wheat 1 30 99 9;customer y wheat 1 18 99 9;", 1, 18);
        price("the further bid is one above", STEPS + "customer x wheat 2 30 99 9;customer y wheat 1 19 99 9;", 1, 19);
        price("the further bid when all loaves are sold", THREE + "customer x rye 3 20 99 9;customer y rye 1 10 99 9;", 0, 10);
        price("not the bid behind it", THREE + "customer x rye 4 20 99 9;customer y rye 1 30 99 9;", 0, 20);
        price("the highest there is", "market 99 1 1;baker a 1 1;bake a rye;hours 1;customer x rye 1 99 99 9;", 0, 99);
        LoafMarket free = Use.loaded("market 9 9 9;baker a 2 1;bake a roll;hours 1;hours 4;customer x roll 1 1 9 9;");
        free.setBasePrice(2, 1);
        check.due("S4 P36 the reserve price is 0 and there is no further bid", free.clearingPrice(2), 1);
        Use.join(free, "y", 2, 1, 2, 9, 9);
        check.due("S4 P36 the reserve price is 0 and both are sold", free.clearingPrice(2), 1);
        Use.join(free, "z", 2, 1, 3, 9, 9);
        check.due("S4 P36 the reserve price is 0 and a third bid is 1", free.clearingPrice(2), 1);
        Use.join(free, "w", 2, 1, 3, 9, 9);
        check.due("S4 P36 the reserve price is 0 and a third bid is 2", free.clearingPrice(2), 2);
    }

    /** Bids and loaves of a question before are not those of this one. */
    private static void p34to40EachQuestionAlone() {
        String text = "market 9 9 9;baker a 3 1;baker b 1 1;bake a roll;bake b rye;hours 1;"
                + "customer x roll 9 99 999 9;customer y rye 1 10 10 9;customer z wheat 2 8 99 9;";
        for (int other = 0; other < 3; other++) {
            int[] got = new int[7];
            for (int i = 0; i < 7; i++) {
                LoafMarket m = Use.loaded(text);
                m.tradeCount(2);
                m.tradeCount(other);
                got[i] = ask(m, Integer.toString(34 + i));
            }
            String what = " after a question about kind " + other;
            check.due("P34" + what, got[0], 1);
            check.due("P35" + what, got[1], 1);
            check.due("P36" + what, got[2], 9);
            check.due("P37" + what, got[3], 1);
            check.due("P38" + what, got[4], 1);
            check.due("P39" + what, got[5], 3);
            check.due("P40" + what, got[6], 1);
        }
        for (int kind = 0; kind < 3; kind++) {
            LoafMarket m = Use.loaded(text);
            m.tradesAfter(2, 0);
            check.due("P36 after a question about the future, kind " + kind, m.clearingPrice(kind), kind == 0 ? 9 : kind == 1 ? LoafMarket.NONE : 99);
        }
    }

    private static void p37Reasons() {
        check.due("S4 P37 neither loaves nor bids", Use.loaded(NO_LOAVES).reasonNoTrades(0), 1);
        check.due("S4 P37 no loaves, but bids", Use.loaded(NO_LOAVES + "customer x rye 1 9 9 9;").reasonNoTrades(0), 1);
        check.due("S4 P37 loaves in the oven alone", Use.loaded("market 9 9 9;baker a 3 2;bake a rye;hours 1;").reasonNoTrades(0), 1);
        check.due("S4 P37 loaves of another kind alone", Use.loaded(THREE).reasonNoTrades(1), 1);
        check.due("S4 P37 loaves, but no customers", Use.loaded(THREE).reasonNoTrades(0), 2);
        check.due("S4 P37 loaves, but customers of another kind", Use.loaded(THREE + "customer x wheat 1 9 9 9;").reasonNoTrades(0), 2);
        check.due("S4 P37 loaves, but a purse below the limit", Use.loaded(THREE + "customer x rye 1 9 8 9;").reasonNoTrades(0), 2);
        check.due("S4 P37 the bid is one below", Use.loaded(THREE + "customer x rye 1 8 8 9;").reasonNoTrades(0), 3);
        check.due("S4 P37 the bid is as high", Use.loaded(THREE + "customer x rye 1 9 9 9;").reasonNoTrades(0), 0);
        check.due("S4 P37 the lowest reserve price counts", Use.loaded(STEPS + "customer x wheat 1 18 99 9;").reasonNoTrades(1), 0);
        check.due("S4 P37 one below the lowest", Use.loaded(STEPS + "customer x wheat 1 17 99 9;").reasonNoTrades(1), 3);
        check.due("S4 P37 the first bid counts", Use.loaded(STEPS + "customer x wheat 1 17 99 9;customer y wheat 1 18 99 9;").reasonNoTrades(1), 0);
    }

    private static void p38p39Trades() {
        LoafMarket m = Use.loaded(THREE + "customer x rye 1 10 99 9;customer y rye 1 11 99 9;customer z rye 1 8 99 9;");
        check.due("P38 the first trade", m.buyerOf(0, 0), 1);
        check.due("P38 the last trade", m.buyerOf(0, 1), 0);
        check.due("P39 the first trade", m.loafOf(0, 0), 0);
        check.due("P39 the last trade", m.loafOf(0, 1), 1);
        for (int wrong : new int[] {-1, 2, 3, 60, 90, MIN, MAX}) {
            check.dueElement("P38 trade " + wrong + " of two", () -> m.buyerOf(0, wrong));
            check.dueElement("P39 trade " + wrong + " of two", () -> m.loafOf(0, wrong));
        }
        check.dueElement("P38 no trades", () -> m.buyerOf(1, 0));
        check.dueElement("P39 no trades", () -> m.loafOf(1, 0));
        Twin.refusedElement(check, "P38 buyerOf(0, 2)", Twin::rich, t -> t.buyerOf(0, 2));
        Twin.refusedElement(check, "P39 loafOf(0, 2)", Twin::rich, t -> t.loafOf(0, 2));
        LoafMarket most = Use.loaded("market 9 9 9;baker a 12 1;baker b 12 1;bake a roll;bake b roll;hours 1;bake a roll;bake b roll;hours 1;bake a roll;hours 1;"
                + "customer k roll 9 9 999 9;customer l roll 9 9 999 9;customer m roll 9 9 999 9;customer n roll 9 9 999 9;customer o roll 9 9 999 9;customer p roll 9 9 999 9;customer q roll 9 9 999 9;");
        check.due("P35 sixty trades", most.tradeCount(2), 60);
        check.due("P38 the last of sixty", most.buyerOf(2, 59), 6);
        check.due("P39 the last of sixty", most.loafOf(2, 59), 59);
        check.dueElement("P38 behind the last of sixty", () -> most.buyerOf(2, 60));
        check.dueElement("P39 behind the last of sixty", () -> most.loafOf(2, 60));
        check.due("P54 sixty at once", most.auction(2), 60);
        check.due("P10 all of them gone", most.loafCount(), 0);
        check.due("P11 and 180 crumbs", most.crumbs(), 180);
    }

    private static void p40Gain() {
        check.due("P40 no trades", Use.loaded(THREE + "customer x rye 1 8 9 9;").gain(0), 0);
        check.due("P40 bids as high as the reserve prices", Use.loaded(THREE + "customer x rye 3 9 27 9;").gain(0), 0);
        check.due("P40 one trade", Use.loaded(THREE + "customer x rye 1 20 99 9;").gain(0), 11);
        check.due("P40 the bids count, not the price", Use.loaded(THREE + "customer x rye 3 20 99 9;customer y rye 1 19 99 9;").gain(0), 33);
        check.due("P40 each loaf has a reserve price of its own", Use.loaded(STEPS + "customer x wheat 3 20 99 9;").gain(1), 3);
        check.due("P40 bids that buy nothing do not count", Use.loaded(STEPS + "customer x wheat 1 20 99 9;customer y wheat 9 18 999 9;").gain(1), 2);
        LoafMarket free = Use.loaded("market 9 9 9;baker a 2 1;bake a roll;hours 1;hours 4;customer x roll 1 7 9 9;");
        free.setBasePrice(2, 1);
        check.due("P40 a loaf at 0", free.gain(2), 7);
    }

    // ---- what an auction does ----

    private static void s4MoneyAndWants() {
        LoafMarket m = Use.loaded("market 9 9 9;baker a 1 1;baker b 2 1;bake b rye;hours 1;bake a rye;hours 1;customer x rye 2 12 99 9;customer y rye 2 13 26 9;");
        check.due("S4 the price", m.clearingPrice(0), 12);
        check.due("S4 three trades", m.auction(0), 3);
        check.due("S4 the ticket of one who bought two and left", m.eventFirst(m.eventCount() - 1), 1);
        check.due("S4 the purse of one who bought one", m.purse(0), 87);
        check.due("S4 who wants one loaf less", m.wanted(0), 1);
        check.due("S4 the baker of the first two", m.income(1), 24);
        check.due("S4 the baker of the third", m.income(0), 12);
        check.due("P45 all coins are there", m.moneyDifference(), 0);
        check.due("P46 all loaves are there", m.loafDifference(), 0);
        check.due("S4 no hour passes", m.hour(), 2);
        LoafMarket last = Use.loaded("market 9 9 9;baker a 1 1;bake a rye;hours 1;customer x rye 2 9 9 9;auction rye;");
        check.due("S4 the last coin is paid", last.purse(0), 0);
        check.due("S4 who wants one more stays without coins", last.wanted(0), 1);
    }

    private static void s4Crumbs() {
        int[] due = {1, 2, 3};
        String[] kinds = {"rye", "wheat", "roll"};
        for (int kind = 0; kind < 3; kind++) {
            LoafMarket m = Use.loaded("market 9 9 9;baker a 3 1;bake a " + kinds[kind] + ";hours 1;customer x " + kinds[kind] + " 2 9 99 9;sparrows 0 100;");
            m.auction(kind);
            check.due("S4 crumbs of two loaves, " + kinds[kind], m.crumbs(), 100 + 2 * due[kind]);
            check.due("S4 the third stays", m.loafCount(), 1);
            check.due("S4 no second auction", m.auction(kind), 0);
            check.due("S4 and no crumbs of it", m.crumbs(), 100 + 2 * due[kind]);
        }
    }

    private static void s4WhoLeaves() {
        LoafMarket m = Use.loaded("market 9 9 9;baker a 6 1;bake a rye;hours 1;customer p rye 1 10 10 9;customer q wheat 1 10 10 9;customer r rye 2 12 24 9;customer s rye 2 11 21 9;customer t rye 1 13 13 9;");
        check.due("S4 five trades", m.auction(0), 5);
        check.dueText("S4 who wants no more leaves", Use.queue(m), "q*1w@10 s*1r@11");
        check.dueText("S6 sold comes first, then left in the order of the queue", Use.events(m), "0:0:6 1:0:9 3:0:0 3:2:0 3:4:0");
        check.due("P45 with the purses with which they left", m.moneyDifference(), 0);
    }

    private static void p54Auction() {
        LoafMarket m = Use.loaded(THREE + "customer x rye 2 9 18 9;");
        for (int kind : new int[] {1, 2}) {
            check.due("P54 no trades", m.auction(kind), 0);
            check.due("S8 is undoable all the same", m.undo(), 1);
        }
        check.due("P54 two trades", m.auction(0), 2);
        check.due("S8 is undoable", m.undoDepth(), 2);
        Twin.leaves(check, "P54 auction without trades", Twin::rich, t -> t.auction(1), "market", "error", "output", "buffer", "slots");
        Twin.leaves(check, "P54 auction with trades", Twin::rich, t -> t.auction(0), "error", "output", "buffer", "slots");
        String[] questions = {"34", "35", "36", "37", "38", "39", "40"};
        for (String question : questions) {
            Twin.leaves(check, "P" + question, Twin::rich, t -> ask(t, question), Twin.PARTS);
        }
    }

    private static int ask(LoafMarket m, String question) {
        switch (question) {
            case "34":
                return m.bidCount(0);
            case "35":
                return m.tradeCount(0);
            case "36":
                return m.clearingPrice(0);
            case "37":
                return m.reasonNoTrades(1);
            case "38":
                return m.buyerOf(0, 0);
            case "39":
                return m.loafOf(0, 0);
            default:
                return m.gain(0);
        }
    }

    private static void p52SoldShare() {
        check.dueD("P52 none baked", Use.loaded(NO_LOAVES).soldShare(), 0.0f);
        check.dueD("P52 none but in the oven", Use.loaded("market 9 9 9;baker a 3 2;bake a rye;hours 1;").soldShare(), 0.0f);
        check.dueD("P52 none sold", Use.loaded(THREE).soldShare(), 0.0f);
        check.dueD("P52 one of three", Use.loaded(THREE + "customer x rye 1 9 9 9;auction rye;").soldShare(), 1.0f / 3.0f);
        check.dueD("P52 two of three", Use.loaded(THREE + "customer x rye 2 9 18 9;auction rye;").soldShare(), 2.0f / 3.0f);
        check.dueD("P52 the only one", Use.loaded("market 9 9 9;baker a 1 1;bake a rye;hours 1;customer x rye 1 9 9 9;auction rye;").soldShare(), 1.0f);
        check.dueD("P52 all", Use.loaded(THREE + "customer x rye 3 9 27 9;auction rye;").soldShare(), 1.0f);
        check.dueD("P52 two of six, three of them wasted", Use.loaded(THREE + "customer x rye 2 9 18 9;auction rye;hours 30;bake a roll;hours 1;").soldShare(), 2.0f / 6.0f);
    }
}
