/** Promises 53, 55 to 57 and 60 to 65: what changes the market, the output, slots and undo. */
public final class ChangeTest {
    private static final Check check = new Check("ChangeTest");

    public static void main(String[] args) {
        bake();
        join();
        joinOrder();
        sendAway();
        basePrice();
        output();
        slots();
        undo();
        undoOfEach();
        check.end();
    }

    private static void bake() {
        LoafMarket m = new LoafMarket();
        for (int wrong : new int[] {-1, 2, Integer.MIN_VALUE, Integer.MAX_VALUE}) {
            check.dueIndex("bake " + wrong, () -> m.bake(wrong, 0));
        }
        check.due("bake(0, 1)", m.bake(0, 1), 4);
        check.due("bakingKind", m.bakingKind(0), 1);
        check.due("hoursLeft", m.hoursLeft(0), 2);
        check.due("loafCount", m.loafCount(), 10);
        for (int wrong : new int[] {-1, 3, Integer.MIN_VALUE, Integer.MAX_VALUE}) {
            check.dueIndex("bake of kind " + wrong, () -> m.bake(0, wrong));
        }
        check.dueState("bake again", () -> m.bake(0, 2));
        check.due("bakingKind", m.bakingKind(0), 1);
        check.due("undoDepth", m.undoDepth(), 1);
        LoafMarket full = Use.loaded("market 99 99 99;baker a 12 1;baker b 12 1;baker c 12 1;baker d 12 1;bake a rye;bake b rye;bake c rye;bake d rye;hours 1;");
        check.due("bake", full.bake(0, 0), 12);
        check.dueState("no room", () -> full.bake(1, 0));
        check.due("bakingKind", full.bakingKind(1), -1);
    }

    private static void join() {
        LoafMarket m = new LoafMarket();
        check.due("join", Use.join(m, "flo", 1, 9, 99, 999, 99), 3);
        check.dueText("the queue", Use.queue(m), "cid*2o@6 dot*3r@25 eli*2o@4 flo*9w@99");
        check.due("purse", m.purse(3), 999);
        check.due("patience", m.patience(3), 99);
        check.due("ticketOf", m.ticketOf(3), 3);
        check.due("moneyDifference", m.moneyDifference(), 0);
        check.dueArgument("the buffer is empty", () -> m.truncateInput(1));
        check.due("join with the least", Use.join(m, "a", 0, 1, 1, 0, 1), 4);
        check.due("eventCount", m.eventCount(), 3);
        String[] wrongNames = {"", "abcde", "ab1", "Ann", "a b", " a", "a ", "a\n", "\0", "a\0", "{", "`", "ab;", "12", "\u00e1"};
        for (String name : wrongNames) {
            Use.feed(m, name);
            check.dueArgument("join as '" + name + "'", () -> m.joinQueue(0, 1, 1, 1, 1));
            check.due("the buffer stays", m.truncateInput(name.length()), name.length());
        }
        for (String name : new String[] {"ann", "bob", "cid", "flo", "a"}) {
            Use.feed(m, name);
            check.dueState("join as " + name, () -> m.joinQueue(0, 1, 1, 1, 1));
            check.due("the buffer stays", m.truncateInput(name.length()), name.length());
        }
        check.due("customerCount", m.customerCount(), 5);
        check.due("undoDepth", m.undoDepth(), 2);
        m.sendAway(0);
        check.due("the name is free again", Use.join(m, "cid", 0, 1, 1, 1, 1), 5);
        check.due("join as an", Use.join(m, "an", 0, 1, 1, 1, 1), 6);
        for (String name : new String[] {"rye", "g", "hhhh"}) {
            Use.join(m, name, 2, 1, 1, 1, 1);
        }
        check.due("customerCount", m.customerCount(), 9);
        check.due("the tenth", Use.join(m, "last", 2, 1, 1, 1, 1), 10);
        Use.feed(m, "more");
        check.dueState("the eleventh", () -> m.joinQueue(2, 1, 1, 1, 1));
        check.due("the buffer stays", m.truncateInput(4), 4);
        m.sendAway(9);
        check.due("now there is room", m.joinQueue(2, 1, 1, 1, 1), 11);
    }

    private static void joinOrder() {
        LoafMarket m = new LoafMarket();
        Use.feed(m, "ann");
        for (int wrong : new int[] {-1, 3, Integer.MIN_VALUE, Integer.MAX_VALUE}) {
            check.dueIndex("kind " + wrong, () -> m.joinQueue(wrong, 0, 0, -1, 0));
        }
        int[][] wrong = {{0, 1, 1, 1}, {10, 1, 1, 1}, {1, 0, 1, 1}, {1, 100, 1, 1}, {1, 1, -1, 1}, {1, 1, 1000, 1}, {1, 1, 1, 0}, {1, 1, 1, 100},
            {Integer.MIN_VALUE, 1, 1, 1}, {1, Integer.MAX_VALUE, 1, 1}, {1, 1, Integer.MAX_VALUE, 1}, {1, 1, 1, Integer.MIN_VALUE}};
        for (int[] w : wrong) {
            check.dueArgument("join " + w[0] + " " + w[1] + " " + w[2] + " " + w[3], () -> m.joinQueue(0, w[0], w[1], w[2], w[3]));
        }
        check.dueState("only the name is taken", () -> m.joinQueue(0, 1, 1, 1, 1));
        check.due("the buffer stays", m.truncateInput(3), 3);
        check.due("undoDepth", m.undoDepth(), 0);
        for (int i = 0; i < 7; i++) {
            Use.join(m, "x" + (char) ('a' + i), 0, 1, 1, 1, 9);
        }
        Use.feed(m, "");
        check.dueArgument("a full queue, but no name either", () -> m.joinQueue(0, 1, 1, 1, 1));
    }

    private static void sendAway() {
        LoafMarket m = new LoafMarket();
        for (int wrong : new int[] {-1, 3, 10, Integer.MIN_VALUE, Integer.MAX_VALUE}) {
            check.dueIndex("sendAway " + wrong, () -> m.sendAway(wrong));
        }
        check.due("undoDepth", m.undoDepth(), 0);
        check.due("sendAway(1)", m.sendAway(1), 60);
        check.dueText("the queue", Use.queue(m), "cid*2o@6 eli*2o@4");
        check.dueText("events", Use.events(m), "0:1:3 0:0:4 0:1:3 3:1:2");
        check.due("moneyDifference", m.moneyDifference(), 0);
        check.due("purse moved up", m.purse(1), 9);
        check.due("patience moved up", m.patience(1), 2);
        check.due("ticket moved up", m.ticketOf(1), 2);
        check.due("kind moved up", m.kindWanted(1), 2);
        check.dueIndex("sendAway(2)", () -> m.sendAway(2));
        check.due("undoDepth", m.undoDepth(), 1);
    }

    private static void basePrice() {
        LoafMarket m = new LoafMarket();
        for (int wrong : new int[] {-1, 3, Integer.MIN_VALUE, Integer.MAX_VALUE}) {
            check.dueIndex("setBasePrice of " + wrong, () -> m.setBasePrice(wrong, 0));
        }
        for (int wrong : new int[] {-1, 0, 100, Integer.MIN_VALUE, Integer.MAX_VALUE}) {
            check.dueArgument("setBasePrice to " + wrong, () -> m.setBasePrice(0, wrong));
        }
        check.due("undoDepth", m.undoDepth(), 0);
        check.due("setBasePrice(0, 99)", m.setBasePrice(0, 99), 20);
        check.due("setBasePrice(0, 1)", m.setBasePrice(0, 1), 99);
        check.due("setBasePrice(2, 7)", m.setBasePrice(2, 7), 8);
        check.due("basePrice(0)", m.basePrice(0), 1);
        check.due("basePrice(1)", m.basePrice(1), 10);
        check.due("basePrice(2)", m.basePrice(2), 7);
        check.due("the loaves follow", m.reservePrice(3), 1);
        check.due("undoDepth", m.undoDepth(), 3);
    }

    private static void output() {
        LoafMarket m = new LoafMarket();
        check.dueElement("before writeQueue", () -> m.outputByte(0));
        check.due("writeQueue", m.writeQueue(), 27);
        check.dueText("the queue", Use.queue(m), "cid*2o@6 dot*3r@25 eli*2o@4");
        for (int wrong : new int[] {-1, 27, 119, 120, Integer.MIN_VALUE, Integer.MAX_VALUE}) {
            check.dueElement("outputByte " + wrong, () -> m.outputByte(wrong));
        }
        m.sendAway(0);
        check.due("the output stays", m.outputByte(0), 'c');
        check.due("undoDepth", m.undoDepth(), 1);
        check.due("writeQueue", m.writeQueue(), 18);
        check.due("the new output", m.outputByte(0), 'd');
        check.dueElement("the old output is gone", () -> m.outputByte(18));
        m.undo();
        check.due("undo leaves the output", m.outputByte(0), 'd');
        check.due("undoDepth", m.undoDepth(), 0);
        LoafMarket empty = Use.loaded("market 1 1 1;");
        check.due("an empty queue", empty.writeQueue(), 0);
        check.dueElement("outputByte(0)", () -> empty.outputByte(0));
        StringBuilder due = new StringBuilder();
        for (int i = 0; i < 10; i++) {
            String name = "abc" + (char) ('a' + i);
            Use.join(empty, name, i % 3, 9, 90 + i, 1, 1);
            due.append(i == 0 ? "" : " ").append(name).append("*9").append("rwo".charAt(i % 3)).append('@').append(90 + i);
        }
        check.dueText("a full queue", Use.queue(empty), due.toString());
        check.due("its length", empty.writeQueue(), 109);
        LoafMarket limits = Use.loaded("market 1 1 1;customer a rye 1 9 1 1;customer b rye 1 10 1 1;");
        check.dueText("limits of one and two digits", Use.queue(limits), "a*1r@9 b*1r@10");
    }

    private static void slots() {
        LoafMarket m = new LoafMarket();
        for (int wrong : new int[] {-1, 2, Integer.MIN_VALUE, Integer.MAX_VALUE}) {
            check.dueIndex("save " + wrong, () -> m.save(wrong));
            check.dueIndex("restore " + wrong, () -> m.restore(wrong));
        }
        check.due("save(1)", m.save(1), 3);
        check.due("save is not remembered", m.undoDepth(), 0);
        check.dueState("slot 0 is empty yet", () -> m.restore(0));
        String first = Use.state(m);
        m.passHours(4);
        m.auction(2);
        check.due("save(0)", m.save(0), 7);
        String second = Use.state(m);
        m.passHours(9);
        check.due("restore(1)", m.restore(1), 3);
        check.dueText("the first state", Use.state(m), first);
        check.due("undoDepth", m.undoDepth(), 4);
        m.setBasePrice(0, 77);
        m.passHours(30);
        check.due("the slot keeps its content", m.restore(1), 3);
        check.dueText("the first state", Use.state(m), first);
        check.due("restore(0)", m.restore(0), 7);
        check.dueText("the second state", Use.state(m), second);
        // a slot that is saved to again
        LoafMarket over = new LoafMarket();
        over.save(1);
        over.passHours(4);
        over.auction(2);
        String later = Use.state(over);
        check.due("save over it", over.save(1), 7);
        over.passHours(1);
        check.due("restore(1)", over.restore(1), 7);
        check.dueText("the later state", Use.state(over), later);
        // undo leaves the slots alone
        LoafMarket u = new LoafMarket();
        u.passHours(1);
        u.save(0);
        u.undo();
        check.due("hour after undo", u.hour(), 3);
        check.due("the slot has the later hour", u.restore(0), 4);
        check.due("undo of restore", u.undo(), 0);
        check.due("hour", u.hour(), 3);
        // load leaves the slots alone, and a restored market goes on with its tickets
        Use.feed(u, "market 1 1 1;");
        u.load();
        check.due("restore after load", u.restore(0), 4);
        check.due("the next ticket", Use.join(u, "new", 0, 1, 1, 1, 1), 3);
    }

    private static void undo() {
        LoafMarket m = new LoafMarket();
        check.dueState("undo of nothing", m::undo);
        int[] crumbs = new int[13];
        for (int i = 0; i < 12; i++) {
            crumbs[i] = m.crumbs();
            m.scatter(i + 1);
            check.due("undoDepth", m.undoDepth(), Math.min(8, i + 1));
        }
        for (int i = 7; i >= 0; i--) {
            check.due("undo", m.undo(), i);
            check.due("undoDepth", m.undoDepth(), i);
            check.due("the crumbs before", m.crumbs(), crumbs[4 + i]);
        }
        check.dueState("no call is remembered any more", m::undo);
        check.due("and nothing changes", m.crumbs(), crumbs[4]);
        m.scatter(1);
        check.due("a new call is remembered", m.undo(), 0);
        check.due("the crumbs before", m.crumbs(), crumbs[4]);
        // a load does not discard the remembered calls
        LoafMarket l = new LoafMarket();
        l.scatter(5);
        Use.feed(l, "market 1 1 1;");
        l.load();
        check.due("undoDepth after load", l.undoDepth(), 2);
        check.due("undo of load", l.undo(), 1);
        check.due("crumbs", l.crumbs(), 6);
        check.due("undo of scatter", l.undo(), 0);
        check.due("crumbs", l.crumbs(), 1);
    }

    private static void undoOfEach() {
        undone("bake", m -> m.bake(0, 2));
        undone("auction", m -> m.auction(0));
        undone("auction without trades", m -> m.auction(1));
        undone("joinQueue", m -> Use.join(m, "new", 1, 2, 3, 4, 5));
        undone("sendAway", m -> m.sendAway(1));
        undone("setBasePrice to what it is", m -> m.setBasePrice(2, 8));
        undone("setBasePrice", m -> m.setBasePrice(1, 50));
        undone("scatter", m -> m.scatter(99));
        undone("passHours", m -> m.passHours(60));
        undone("restore", m -> m.save(0) + m.restore(0));
        undone("load", m -> {
            Use.feed(m, "market 1 2 3;");
            return m.load();
        });
        LoafMarket again = new LoafMarket();
        check.due("the ticket", Use.join(again, "new", 1, 2, 3, 4, 5), 3);
        again.undo();
        check.due("the ticket comes again", Use.join(again, "new", 1, 2, 3, 4, 5), 3);
    }

    private static void undone(String call, Twin.Act act) {
        LoafMarket m = new LoafMarket();
        String before = Use.state(m);
        act.run(m);
        check.due("undoDepth after " + call, m.undoDepth(), 1);
        check.due("undo of " + call, m.undo(), 0);
        check.dueText("the state before " + call, Use.state(m), before);
    }
}
