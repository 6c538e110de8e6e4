/** Promises 41 to 50, 58 and 59, and section 5: hours, events and the future. */
public final class TimeTest {
    private static final Check check = new Check("TimeTest");

    public static void main(String[] args) {
        wrongInputs();
        ovens();
        staleLoaves();
        sparrowsAndCrumbs();
        patience();
        orderWithinAnHour();
        events();
        differences();
        future();
        bestHour();
        check.end();
    }

    private static void wrongInputs() {
        LoafMarket m = new LoafMarket();
        String before = Use.state(m);
        for (int wrong : new int[] {-1, 101, Integer.MIN_VALUE, Integer.MAX_VALUE}) {
            check.dueArgument("sparrowsAfter " + wrong, () -> m.sparrowsAfter(wrong));
            check.dueArgument("loavesAfter " + wrong, () -> m.loavesAfter(wrong));
            check.dueArgument("tradesAfter " + wrong, () -> m.tradesAfter(0, wrong));
            check.dueIndex("tradesAfter twice wrong " + wrong, () -> m.tradesAfter(3, wrong));
        }
        for (int wrong : new int[] {-1, 3, Integer.MIN_VALUE, Integer.MAX_VALUE}) {
            check.dueIndex("tradesAfter of " + wrong, () -> m.tradesAfter(wrong, 0));
            check.dueIndex("bestHour " + wrong, () -> m.bestHour(wrong));
            check.dueIndex("eventType " + wrong, () -> m.eventType(wrong));
            check.dueIndex("eventFirst " + wrong, () -> m.eventFirst(wrong));
            check.dueIndex("eventSecond " + wrong, () -> m.eventSecond(wrong));
        }
        for (int wrong : new int[] {-1, 0, 61, Integer.MIN_VALUE, Integer.MAX_VALUE}) {
            check.dueArgument("passHours " + wrong, () -> m.passHours(wrong));
        }
        for (int wrong : new int[] {-1, 0, 100, Integer.MIN_VALUE, Integer.MAX_VALUE}) {
            check.dueArgument("scatter " + wrong, () -> m.scatter(wrong));
        }
        check.dueText("the state", Use.state(m), before);
        check.due("undoDepth", m.undoDepth(), 0);
    }

    private static void ovens() {
        LoafMarket m = Use.loaded("market 9 9 9;baker a 2 2;baker b 3 1;bake a rye;");
        m.passHours(1);
        m.bake(1, 2);
        check.due("hoursLeft", m.hoursLeft(0), 1);
        check.due("passHours", m.passHours(1), 0);
        check.dueText("both at once, by number", Use.stock(m), "0:0:0 0:0:0 2:1:0 2:1:0 2:1:0");
        check.dueText("events", Use.events(m), "0:0:2 0:1:3");
        check.due("bakingKind", m.bakingKind(0), -1);
        check.due("hoursLeft", m.hoursLeft(0), 0);
        check.due("hour", m.hour(), 2);
    }

    private static void staleLoaves() {
        LoafMarket m = Use.loaded("market 9 4 8;baker a 1 1;baker b 2 1;bake a wheat;bake b roll;hours 1;bake a rye;hours 1;bake b roll;hours 1;");
        check.due("before", m.passHours(13), 0);
        check.due("two rolls of 16 hours", m.passHours(1), 2);
        check.dueText("stock", Use.stock(m), "1:0:16 0:0:15 2:1:14 2:1:14");
        check.due("crumbs", m.crumbs(), 10);
        check.due("two more rolls and the wheat loaf", m.passHours(4), 3);
        check.dueText("stock", Use.stock(m), "0:0:19");
        check.dueText("events", Use.events(m), "0:0:1 0:1:2 0:0:1 0:1:2 2:2:1 2:2:1 2:2:1 2:2:1 2:1:0");
        check.due("loafDifference", m.loafDifference(), 0);
        check.due("moneyDifference", m.moneyDifference(), 0);
    }

    private static void sparrowsAndCrumbs() {
        hour(0, 0, 0, 0);
        hour(0, 20, 0, 20);
        hour(0, 21, 1, 21);
        hour(1, 0, 0, 0);
        hour(1, 2, 0, 0);
        hour(1, 3, 0, 0);
        hour(1, 4, 1, 1);
        hour(1, 23, 1, 20);
        hour(1, 24, 2, 21);
        hour(9, 27, 8, 0);
        hour(9, 26, 8, 0);
        hour(9, 47, 9, 20);
        hour(9, 48, 9, 21);
        hour(9, 999, 9, 972);
        hour(8, 45, 9, 21);
        hour(8, 999, 9, 975);
        LoafMarket m = new LoafMarket();
        check.due("scatter(1)", m.scatter(1), 2);
        check.due("scatter(99)", m.scatter(99), 101);
        check.due("crumbs", m.crumbs(), 101);
        check.due("undoDepth", m.undoDepth(), 2);
        LoafMarket many = Use.loaded("market 1 1 1;sparrows 0 999;");
        check.due("crumbs above 999", many.scatter(99), 1098);
    }

    private static void hour(int sparrows, int crumbs, int sparrowsAfter, int crumbsAfter) {
        LoafMarket m = Use.loaded("market 1 1 1;sparrows " + sparrows + " " + crumbs + ";");
        check.due("sparrowsAfter(1) of " + sparrows + " and " + crumbs, m.sparrowsAfter(1), sparrowsAfter);
        m.passHours(1);
        check.due("sparrows after " + sparrows + " and " + crumbs, m.sparrows(), sparrowsAfter);
        check.due("crumbs after " + sparrows + " and " + crumbs, m.crumbs(), crumbsAfter);
    }

    private static void patience() {
        LoafMarket m = Use.loaded("market 1 1 1;customer a rye 1 1 7 2;customer b rye 1 1 8 1;customer c rye 1 1 9 2;customer d rye 1 1 9 3;");
        m.passHours(1);
        check.dueText("after an hour", Use.queue(m), "a*1r@1 c*1r@1 d*1r@1");
        check.due("patience", m.patience(0), 1);
        m.passHours(1);
        check.dueText("after two", Use.queue(m), "d*1r@1");
        check.dueText("events", Use.events(m), "3:1:1 3:0:1 3:2:1");
        check.due("moneyDifference", m.moneyDifference(), 0);
    }

    private static void orderWithinAnHour() {
        // a bakes, a roll is wasted, its crumbs feed a sparrow, then a customer leaves
        LoafMarket m = Use.loaded("market 9 9 1;baker a 1 1;baker b 1 4;bake a roll;hours 1;bake b rye;customer c rye 1 1 1 4;sparrows 1 8;");
        m.passHours(3);
        check.due("sparrows", m.sparrows(), 0);
        check.due("wasted", m.passHours(1), 1);
        check.dueText("events", Use.events(m), "0:0:1 0:1:1 2:2:0 3:0:1");
        check.due("5 crumbs and no sparrow", m.crumbs(), 5);
        LoafMarket eaten = Use.loaded("market 9 9 1;baker a 1 1;bake a roll;hours 4;sparrows 2 0;");
        check.due("wasted", eaten.passHours(1), 1);
        check.due("two sparrows eat 5 crumbs", eaten.crumbs(), 0);
        check.due("one of them leaves", eaten.sparrows(), 1);
        LoafMarket fed = Use.loaded("market 9 9 1;baker a 4 1;bake a roll;hours 4;sparrows 0 1;");
        check.due("wasted", fed.passHours(1), 4);
        check.due("21 crumbs bring a sparrow", fed.sparrows() * 100 + fed.crumbs(), 121);
    }

    private static void events() {
        LoafMarket m = Use.loaded("market 1 1 1;");
        check.due("eventCount", m.eventCount(), 0);
        check.dueIndex("eventType(0)", () -> m.eventType(0));
        for (int i = 0; i < 35; i++) {
            int ticket = Use.join(m, "x", 0, 1, 1, 1, 1);
            check.due("ticket", ticket, i);
            check.due("purse", m.sendAway(0), 1);
            check.due("eventCount", m.eventCount(), Math.min(30, i + 1));
            check.due("the latest event", m.eventFirst(m.eventCount() - 1), i);
        }
        check.due("the oldest one", m.eventFirst(0), 5);
        check.due("its type", m.eventType(0), 3);
        check.due("its reason", m.eventSecond(0), 2);
        check.dueIndex("eventType(30)", () -> m.eventType(30));
        check.dueIndex("eventFirst(30)", () -> m.eventFirst(30));
        check.dueIndex("eventSecond(30)", () -> m.eventSecond(30));
        LoafMarket full = Use.loaded("market 1 1 1;baker a 12 1;baker b 12 1;baker c 12 1;bake a roll;bake b roll;bake c roll;hours 5;");
        check.due("36 wasted", full.loafCount(), 0);
        check.due("the latest 30", full.eventCount(), 30);
        check.dueText("the first of them", full.eventType(0) + ":" + full.eventFirst(0) + ":" + full.eventSecond(0), "2:2:0");
        check.due("and the seventh", full.eventSecond(6), 1);
    }

    private static void differences() {
        LoafMarket m = new LoafMarket();
        m.auction(0);
        m.sendAway(0);
        m.bake(0, 2);
        for (int i = 0; i < 30; i++) {
            check.due("moneyDifference", m.moneyDifference(), 0);
            check.due("loafDifference", m.loafDifference(), 0);
            m.passHours(1);
        }
        m.undo();
        check.due("moneyDifference after undo", m.moneyDifference(), 0);
        check.due("loafDifference after undo", m.loafDifference(), 0);
    }

    private static void future() {
        LoafMarket m = new LoafMarket();
        m.bake(1, 2);
        m.scatter(99);
        String before = Use.state(m);
        int depth = m.undoDepth();
        int[] hours = {0, 1, 2, 3, 5, 14, 24, 34, 60};
        for (int ahead : hours) {
            LoafMarket later = new LoafMarket();
            later.bake(1, 2);
            later.scatter(99);
            if (ahead > 0) {
                later.passHours(ahead);
            }
            check.due("sparrowsAfter " + ahead, m.sparrowsAfter(ahead), later.sparrows());
            check.due("loavesAfter " + ahead, m.loavesAfter(ahead), later.loafCount());
            for (int kind = 0; kind < 3; kind++) {
                check.due("tradesAfter " + kind + " " + ahead, m.tradesAfter(kind, ahead), later.tradeCount(kind));
            }
        }
        check.due("loavesAfter(100)", m.loavesAfter(100), 0);
        check.due("sparrowsAfter(100)", m.sparrowsAfter(100), 0);
        check.due("tradesAfter(0, 100)", m.tradesAfter(0, 100), 0);
        check.dueText("questions change nothing", Use.state(m), before);
        check.due("undoDepth", m.undoDepth(), depth);
        LoafMarket rye = Use.loaded("market 99 9 9;baker a 1 1;bake a rye;hours 1;customer c rye 1 1 1 99;hours 1;");
        check.due("loavesAfter(72)", rye.loavesAfter(72), 1);
        check.due("loavesAfter(73)", rye.loavesAfter(73), 0);
        check.due("tradesAfter(0, 71)", rye.tradesAfter(0, 71), 0);
        check.due("tradesAfter(0, 72)", rye.tradesAfter(0, 72), 1);
    }

    private static void bestHour() {
        LoafMarket m = new LoafMarket();
        check.due("rolls", m.bestHour(2), 2);
        check.due("rye", m.bestHour(0), 0);
        check.due("wheat, which nobody wants", m.bestHour(1), 0);
        check.due("none at all", Use.loaded("market 1 1 1;").bestHour(0), 0);
        // a wheat loaf at 40 falls by two coins an hour: from hour 15 on a bid of 10 is enough
        LoafMarket wheat = Use.loaded("market 9 40 9;baker a 1 1;bake a wheat;hours 1;customer c wheat 1 10 10 99;");
        check.due("wheat", wheat.bestHour(1), 15);
        LoafMarket edge = Use.loaded("market 9 40 9;baker a 1 1;bake a rye;hours 1;customer c rye 1 9 10 99;");
        edge.setBasePrice(0, 10);
        check.due("rye falls at hour 25 only", edge.bestHour(0), 0);
        check.due("though there is a trade", edge.tradesAfter(0, 25), 1);
        edge.passHours(1);
        check.due("now it is hour 24", edge.bestHour(0), 24);
        LoafMarket one = Use.loaded("market 9 2 9;baker a 1 1;bake a wheat;hours 1;customer c wheat 1 1 1 99;");
        check.due("a sum of one coin counts", one.bestHour(1), 10);
        // two trades at a low price bring less than one at a high price, and equal sums go to the first
        LoafMarket sums = Use.loaded("market 9 20 9;baker a 2 1;bake a wheat;hours 1;customer c wheat 1 20 20 9;customer d wheat 1 10 10 99;");
        check.due("one loaf for 20", sums.bestHour(1), 0);
        LoafMarket more = Use.loaded("market 9 20 9;baker a 2 1;bake a wheat;hours 1;customer c wheat 1 20 20 99;customer d wheat 1 11 11 99;");
        check.due("two loaves for 11", more.bestHour(1), 9);
    }
}
