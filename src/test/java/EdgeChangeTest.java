/** The edges that promises 53 to 65 and sections 2, 3 and 8 name: changes, the output, slots, undo. */
public final class EdgeChangeTest {
    private static final Check check = new Check("EdgeChangeTest");
    private static final int MIN = Integer.MIN_VALUE;
    private static final int MAX = Integer.MAX_VALUE;
    private static final String M = "market 20 10 8;";
    private static final String MANY = "market 99 50 40;baker a 12 1;baker b 11 1;baker c 1 1;baker d 2 1;"
            + "bake a rye;hours 1;bake a rye;hours 1;bake a rye;hours 1;bake a rye;hours 1;";

    public static void main(String[] args) {
        check.part("P53", EdgeChangeTest::p53Indexes);
        check.part("P53", EdgeChangeTest::p53Refused);
        check.part("P53", EdgeChangeTest::p53Begins);
        check.part("P55", EdgeChangeTest::p55Ranges);
        check.part("P55", EdgeChangeTest::p55Names);
        check.part("P55", EdgeChangeTest::p55NameStaysInTheBuffer);
        check.part("P55", EdgeChangeTest::p55TenCustomers);
        check.part("P55", EdgeChangeTest::p55NamesTaken);
        check.part("P55", EdgeChangeTest::p55OrderOfExceptions);
        check.part("P55", EdgeChangeTest::p55Ticket);
        check.part("P56", EdgeChangeTest::p56SendAway);
        check.part("P57", EdgeChangeTest::p57SetBasePrice);
        check.part("P58", EdgeChangeTest::p58Scatter);
        check.part("P60", EdgeChangeTest::p60WriteQueue);
        check.part("P61", EdgeChangeTest::p61OutputByte);
        check.part("P62", EdgeChangeTest::p62Save);
        check.part("P63", EdgeChangeTest::p63Restore);
        check.part("P64", EdgeChangeTest::p64Undo);
        check.part("P65", EdgeChangeTest::p65UndoDepth);
        check.part("S8", EdgeChangeTest::s8Undoable);
        check.part("S8", EdgeChangeTest::s8TheWholeState);
        check.part("S8", EdgeChangeTest::s8NotUndoable);
        check.part("S8", EdgeChangeTest::s8NoPartOfTheState);
        check.part("S8", EdgeChangeTest::s8QuestionsChangeNothing);
        check.end();
    }

    // ---- promise 53 ----

    private static void p53Indexes() {
        LoafMarket none = Use.loaded(M);
        check.dueIndex("P53 no bakers", () -> none.bake(0, 0));
        LoafMarket m = new LoafMarket();
        for (int wrong : new int[] {-1, 2, MIN, MAX}) {
            check.dueIndex("P53 baker " + wrong, () -> m.bake(wrong, 0));
        }
        for (int wrong : new int[] {-1, 3, MIN, MAX}) {
            check.dueIndex("P53 kind " + wrong, () -> m.bake(0, wrong));
        }
        check.due("P53 the first baker, the first kind", m.bake(0, 0), 4);
        check.due("P53 the last baker, the last kind", m.bake(1, 2), 3);
        check.dueIndex("P53 the kind is asked before the refusal", () -> m.bake(0, 3));
        check.dueIndex("P53 the baker is asked before the refusal", () -> m.bake(2, 0));
        Twin.refusedIndex(check, "P53 bake(2, 0)", Twin::rich, t -> t.bake(2, 0));
        Twin.refusedIndex(check, "P53 bake(1, 3)", Twin::rich, t -> t.bake(1, 3));
        Twin.refusedIndex(check, "P53 bake(-1, 0)", Twin::rich, t -> t.bake(-1, 0));
        Twin.refusedIndex(check, "P53 bake(1, -1)", Twin::rich, t -> t.bake(1, -1));
    }

    private static void p53Refused() {
        Twin.Maker baking = () -> {
            LoafMarket m = Twin.rich();
            m.bake(1, 0);
            return m;
        };
        Twin.refusedState(check, "P53 bake by one who bakes", baking, t -> t.bake(1, 2));
        LoafMarket room = Use.loaded(MANY + "bake b rye;");
        check.due("P18 59 and 1 are 60", room.bakeRefusal(2, 0), 0);
        check.due("P53 59 and 1 are 60", room.bake(2, 0), 1);
        LoafMarket none = Use.loaded(MANY + "bake b rye;");
        check.due("P18 59 and 2 are 61", none.bakeRefusal(3, 0), 2);
        check.dueState("P53 59 and 2 are 61", () -> none.bake(3, 0));
        check.due("P53 the refused baker does not bake", none.bakingKind(3), LoafMarket.NONE);
        check.due("P53 nor has hours left", none.hoursLeft(3), 0);
        check.due("S8 nor is a call remembered", none.undoDepth(), 1);
        LoafMarket full = Use.loaded(MANY + "bake a rye;hours 1;");
        check.dueState("P53 60 in stock", () -> full.bake(2, 1));
        check.due("P54 one is sold", joinAndSell(full), 1);
        check.due("P53 59 in stock", full.bake(2, 1), 1);
        full.passHours(1);
        check.due("P10 60 again", full.loafCount(), 60);
    }

    private static int joinAndSell(LoafMarket m) {
        Use.join(m, "x", 0, 1, 99, 99, 9);
        return m.auction(0);
    }

    private static void p53Begins() {
        for (int size : new int[] {1, 12}) {
            LoafMarket m = Use.loaded(M + "baker a " + size + " 9;");
            check.due("P53 as many as the oven size", m.bake(0, 1), size);
            check.due("P15 the kind", m.bakingKind(0), 1);
            check.due("P16 the hours", m.hoursLeft(0), 9);
            check.due("P10 nothing in the stock", m.loafCount(), 0);
            check.due("P41 no event", m.eventCount(), 0);
            check.dueState("P53 not twice", () -> m.bake(0, 1));
            m.passHours(8);
            check.dueState("P53 nor in the last hour", () -> m.bake(0, 1));
            m.passHours(1);
            check.due("P53 but afterwards", m.bake(0, 0), size);
        }
        Twin.leaves(check, "P53 bake", Twin::rich, t -> t.bake(1, 0), "error", "output", "buffer", "slots");
    }

    // ---- promise 55 ----

    private static LoafMarket named(String name) {
        return Twin.rich("market 20 10 8;baker ann 4 2;customer cid roll 2 6 50 9;", name);
    }

    private static void p55Ranges() {
        int[][] wrong = {{0, 1, 1, 1}, {10, 1, 1, 1}, {1, 0, 1, 1}, {1, 100, 1, 1}, {1, 1, -1, 1}, {1, 1, 1000, 1}, {1, 1, 1, 0}, {1, 1, 1, 100},
            {-1, 1, 1, 1}, {1, -1, 1, 1}, {1, 1, 1, -1}, {MIN, 1, 1, 1}, {MAX, 1, 1, 1}, {1, MIN, 1, 1}, {1, MAX, 1, 1}, {1, 1, MIN, 1}, {1, 1, MAX, 1}, {1, 1, 1, MIN}, {1, 1, 1, MAX}};
        for (int[] w : wrong) {
            String what = "P55 joinQueue(0, " + w[0] + ", " + w[1] + ", " + w[2] + ", " + w[3] + ")";
            Twin.refusedArgument(check, what, () -> named("zoe"), t -> t.joinQueue(0, w[0], w[1], w[2], w[3]));
        }
        for (int kind : new int[] {-1, 3, MIN, MAX}) {
            Twin.refusedIndex(check, "P55 kind " + kind, () -> named("zoe"), t -> t.joinQueue(kind, 1, 1, 1, 1));
        }
        int[][] fine = {{0, 1, 1, 0, 1}, {2, 9, 99, 999, 99}, {1, 2, 2, 1, 2}, {1, 8, 98, 998, 98}};
        for (int[] f : fine) {
            LoafMarket m = named("zoe");
            check.due("P55 the ticket", m.joinQueue(f[0], f[1], f[2], f[3], f[4]), 1);
            check.dueText("P55 the name", Use.customerName(m, 1), "zoe");
            int[] got = {m.kindWanted(1), m.wanted(1), m.limitPrice(1), m.purse(1), m.patience(1)};
            for (int i = 0; i < 5; i++) {
                check.due("P55 argument " + i, got[i], f[i]);
            }
            check.due("P45 the purse is counted", m.moneyDifference(), 0);
            check.due("P41 joining is no event", m.eventCount(), 0);
        }
    }

    private static void p55Names() {
        for (String name : new String[] {"a", "z", "ab", "abc", "abcd", "zzzz", "rye", "bake", "cidd", "ci"}) {
            LoafMarket m = named(name);
            check.due("P55 join as " + name, m.joinQueue(0, 1, 1, 1, 1), 1);
            check.dueText("P55 the whole buffer is the name", Use.customerName(m, 1), name);
            check.due("P55 the buffer is empty afterwards", Use.inputLength(m), 0);
        }
        for (int sign = 0; sign < 256; sign++) {
            if (sign < 'a' || sign > 'z') {
                for (String name : new String[] {"" + (char) sign, "a" + (char) sign, (char) sign + "bc", "abc" + (char) sign}) {
                    LoafMarket m = new LoafMarket();
                    Use.feed(m, name);
                    check.dueArgument("P55 byte " + sign + " in " + name, () -> m.joinQueue(0, 1, 1, 1, 1));
                    check.due("S8 the buffer stays", Use.inputLength(m), name.length());
                }
            }
        }
        for (String name : new String[] {"", "abcde", "abcdefghijklmnopqrst", "q".repeat(600), "abcd ", " abc", "ab cd", "a\n", "cid;", "ann1"}) {
            Twin.refusedArgument(check, "P55 join as " + name, () -> named(name), t -> t.joinQueue(0, 1, 1, 1, 1));
        }
    }

    /** What a refused joinQueue leaves in the buffer is a name for the next one. */
    private static void p55NameStaysInTheBuffer() {
        LoafMarket m = named("abcde");
        Twin.quietly(m, t -> t.joinQueue(0, 1, 1, 1, 1));
        m.truncateInput(4);
        Twin.quietly(m, t -> t.joinQueue(3, 1, 1, 1, 1));
        Twin.quietly(m, t -> t.joinQueue(0, 1, 1, 1, 0));
        check.due("S8 after a kind and a patience out of range", m.joinQueue(0, 1, 1, 1, 1), 1);
        check.dueText("S8 the name", Use.customerName(m, 1), "abcd");
        LoafMarket taken = named("cid");
        Twin.quietly(taken, t -> t.joinQueue(0, 1, 1, 1, 1));
        taken.sendAway(0);
        check.due("S8 after the name was taken", taken.joinQueue(0, 1, 1, 1, 1), 1);
        check.dueText("S8 the name", Use.customerName(taken, 0), "cid");
        LoafMarket baker = named("ann");
        Twin.quietly(baker, t -> t.joinQueue(0, 1, 1, 1, 1));
        check.due("S8 after a baker had the name", Use.inputLength(baker), 3);
    }

    private static String queueOf(int number) {
        StringBuilder text = new StringBuilder(M);
        for (int i = 0; i < number; i++) {
            text.append("customer ").append((char) ('k' + i)).append(" rye 1 1 1 ").append(i == 4 ? 1 : 9).append(';');
        }
        return text.toString();
    }

    private static void p55TenCustomers() {
        LoafMarket m = Use.loaded(queueOf(9));
        check.due("P55 the tenth", Use.join(m, "a", 0, 1, 1, 1, 1), 9);
        check.due("P9 ten", m.customerCount(), 10);
        Use.feed(m, "b");
        check.dueState("P55 the eleventh", () -> m.joinQueue(0, 1, 1, 1, 1));
        m.sendAway(9);
        check.due("P55 the eleventh when one has left", m.joinQueue(0, 1, 1, 1, 1), 10);
        Twin.refusedState(check, "P55 the eleventh", () -> Twin.rich(queueOf(10), "b"), t -> t.joinQueue(0, 1, 1, 1, 1));
        LoafMarket hour = Use.loaded(queueOf(10));
        hour.passHours(1);
        check.due("P55 when one has lost patience", Use.join(hour, "o", 0, 1, 1, 1, 1), 10);
    }

    private static void p55NamesTaken() {
        for (String name : new String[] {"ann", "cid"}) {
            Twin.refusedState(check, "P55 join as " + name, () -> named(name), t -> t.joinQueue(0, 1, 1, 1, 1));
        }
        LoafMarket m = Use.loaded("market 9 9 9;baker a 1 1;baker b 1 1;baker c 1 1;baker d 1 1;customer p rye 1 1 1 1;customer q rye 1 9 9 9;customer r rye 1 1 1 9;bake a rye;hours 1;");
        for (String name : new String[] {"a", "d", "q", "r"}) {
            Use.feed(m, name);
            check.dueState("P55 join as " + name, () -> m.joinQueue(0, 1, 1, 1, 9));
        }
        check.due("S3 the name of one without patience is free", Use.join(m, "p", 0, 1, 1, 1, 9), 3);
        m.auction(0);
        check.due("S3 the name of one who bought is free", Use.join(m, "q", 0, 1, 1, 1, 9), 4);
        m.sendAway(0);
        check.due("S3 the name of one sent away is free", Use.join(m, "r", 0, 1, 1, 1, 9), 5);
    }

    private static void p55OrderOfExceptions() {
        Twin.Maker full = () -> Twin.rich(queueOf(10), "abcde");
        check.dueIndex("P55 the kind comes first", () -> full.make().joinQueue(3, 0, 0, -1, 0));
        check.dueArgument("P55 then a range, before the full queue", () -> Twin.rich(queueOf(10), "a").joinQueue(0, 10, 1, 1, 1));
        check.dueArgument("P55 then the name's form, before the full queue", () -> full.make().joinQueue(0, 1, 1, 1, 1));
        check.dueState("P55 then the full queue", () -> Twin.rich(queueOf(10), "a").joinQueue(0, 1, 1, 1, 1));
        check.dueIndex("P55 the kind before a name that is taken", () -> named("ann").joinQueue(-1, 1, 1, 1, 1));
        check.dueArgument("P55 a range before a name that is taken", () -> named("ann").joinQueue(0, 1, 100, 1, 1));
    }

    private static void p55Ticket() {
        LoafMarket m = Use.loaded(M);
        for (int i = 0; i < 12; i++) {
            check.due("S3 ticket", Use.join(m, "x", 0, 1, 1, 1, 1), i);
            m.sendAway(0);
        }
        m.undo();
        m.undo();
        check.due("S8 undo brings the ticket number back", Use.join(m, "x", 0, 1, 1, 1, 1), 11);
        Use.feed(m, M + "customer a rye 1 1 1 9;");
        m.load();
        check.due("S3 and a load begins with 0", m.ticketOf(0), 0);
        check.due("S3 the next one", Use.join(m, "x", 0, 1, 1, 1, 1), 1);
        Twin.leaves(check, "P55 joinQueue", () -> named("zoe"), t -> t.joinQueue(0, 1, 1, 1, 1), "error", "output", "slots");
    }

    // ---- promises 56 to 58 ----

    private static void p56SendAway() {
        LoafMarket none = Use.loaded(M);
        check.dueIndex("P56 an empty queue", () -> none.sendAway(0));
        LoafMarket m = Use.loaded(M + "customer p rye 1 1 0 9;customer q rye 1 1 999 9;customer r roll 2 3 4 5;");
        for (int wrong : new int[] {-1, 3, 10, MIN, MAX}) {
            check.dueIndex("P56 customer " + wrong, () -> m.sendAway(wrong));
        }
        check.due("P56 the last one's purse", m.sendAway(2), 4);
        check.dueIndex("P56 is gone", () -> m.sendAway(2));
        check.due("P56 an empty purse", m.sendAway(0), 0);
        check.dueText("P56 who stays", Use.queue(m), "q*1r@1");
        check.due("P56 a full purse", m.sendAway(0), 999);
        check.dueText("S6 left: the ticket; 2", Use.events(m), "3:2:2 3:0:2 3:1:2");
        check.due("P45 with their purses", m.moneyDifference(), 0);
        Twin.refusedIndex(check, "P56 sendAway(-1)", Twin::rich, t -> t.sendAway(-1));
        Twin.refusedIndex(check, "P56 sendAway(2)", Twin::rich, t -> t.sendAway(2));
        Twin.leaves(check, "P56 sendAway", Twin::rich, t -> t.sendAway(0), "error", "output", "buffer", "slots");
    }

    private static void p57SetBasePrice() {
        LoafMarket m = new LoafMarket();
        for (int wrong : new int[] {-1, 3, MIN, MAX}) {
            check.dueIndex("P57 kind " + wrong, () -> m.setBasePrice(wrong, 1));
            check.dueIndex("P57 the kind is asked before the price", () -> m.setBasePrice(wrong, 0));
        }
        for (int wrong : new int[] {-1, 0, 100, MIN, MAX}) {
            check.dueArgument("P57 price " + wrong, () -> m.setBasePrice(2, wrong));
        }
        for (int kind = 0; kind < 3; kind++) {
            int before = m.basePrice(kind);
            check.due("P57 the previous one", m.setBasePrice(kind, 1), before);
            check.due("P57 the least", m.basePrice(kind), 1);
            check.due("P57 the previous one", m.setBasePrice(kind, 99), 1);
            check.due("P57 the most", m.basePrice(kind), 99);
        }
        check.due("P57 to what it is", m.setBasePrice(2, 99), 99);
        check.due("S8 is undoable all the same", m.undoDepth(), 7);
        Twin.refusedIndex(check, "P57 setBasePrice(3, 5)", Twin::rich, t -> t.setBasePrice(3, 5));
        Twin.refusedArgument(check, "P57 setBasePrice(0, 0)", Twin::rich, t -> t.setBasePrice(0, 0));
        Twin.refusedArgument(check, "P57 setBasePrice(0, 100)", Twin::rich, t -> t.setBasePrice(0, 100));
        Twin.leaves(check, "P57 setBasePrice", Twin::rich, t -> t.setBasePrice(0, 1), "error", "output", "buffer", "slots");
    }

    private static void p58Scatter() {
        LoafMarket m = Use.loaded(M);
        for (int wrong : new int[] {-1, 0, 100, MIN, MAX}) {
            check.dueArgument("P58 scatter(" + wrong + ")", () -> m.scatter(wrong));
        }
        check.due("P58 the least", m.scatter(1), 1);
        check.due("P58 the most", m.scatter(99), 100);
        check.due("P11 crumbs", m.crumbs(), 100);
        Twin.refusedArgument(check, "P58 scatter(0)", Twin::rich, t -> t.scatter(0));
        Twin.refusedArgument(check, "P58 scatter(100)", Twin::rich, t -> t.scatter(100));
        Twin.leaves(check, "P58 scatter", Twin::rich, t -> t.scatter(1), "error", "output", "buffer", "slots");
    }

    // ---- promises 60 and 61 ----

    private static void p60WriteQueue() {
        LoafMarket none = Use.loaded(M);
        check.due("P60 an empty queue", none.writeQueue(), 0);
        check.dueText("P60 an empty output", Use.output(none), "");
        LoafMarket m = Use.loaded(M + "customer a rye 1 1 1 9;");
        check.due("P60 one customer", m.writeQueue(), 6);
        check.dueText("P60 without a separator", Use.output(m), "a*1r@1");
        Use.join(m, "bcde", 1, 9, 99, 1, 9);
        check.dueText("P60 the output is that of the latest call", Use.output(m), "a*1r@1");
        check.due("P60 two customers", m.writeQueue(), 17);
        check.dueText("P60 with one separator", Use.output(m), "a*1r@1 bcde*9w@99");
        Use.join(m, "cc", 2, 2, 9, 1, 9);
        Use.join(m, "dd", 2, 2, 10, 1, 9);
        check.dueText("P60 limits of 9 and 10", Use.queue(m), "a*1r@1 bcde*9w@99 cc*2o@9 dd*2o@10");
        m.sendAway(1);
        check.due("P60 the longer output is discarded", m.writeQueue(), 23);
        check.dueText("P60 of it nothing is left", Use.output(m), "a*1r@1 cc*2o@9 dd*2o@10");
        LoafMarket ten = Use.loaded(M);
        StringBuilder due = new StringBuilder();
        for (int i = 0; i < 10; i++) {
            String name = "wxy" + (char) ('a' + i);
            Use.join(ten, name, i % 3, 9, 99 - i, 1, 1);
            due.append(i == 0 ? "" : " ").append(name).append("*9").append("rwo".charAt(i % 3)).append('@').append(99 - i);
        }
        check.due("P60 the longest output", ten.writeQueue(), 109);
        check.dueText("P60 the longest output", Use.output(ten), due.toString());
        LoafMarket less = Use.loaded("market 9 9 9;baker b 1 1;bake b rye;hours 1;customer a rye 9 9 99 9;auction rye;");
        check.dueText("P60 as many as are still wanted", Use.queue(less), "a*8r@9");
        Twin.leaves(check, "P60 writeQueue", Twin::rich, LoafMarket::writeQueue, "market", "error", "buffer", "undo", "slots");
    }

    private static void p61OutputByte() {
        LoafMarket m = new LoafMarket();
        for (int wrong : new int[] {-1, 0, 1, MIN, MAX}) {
            check.dueElement("P61 before writeQueue, " + wrong, () -> m.outputByte(wrong));
        }
        int length = m.writeQueue();
        check.due("P61 the first byte", m.outputByte(0), 'c');
        check.due("P61 a separator", m.outputByte(8), ' ');
        check.due("P61 the last byte", m.outputByte(length - 1), '4');
        for (int wrong : new int[] {-1, length, length + 1, 600, MIN, MAX}) {
            check.dueElement("P61 position " + wrong + " of " + length, () -> m.outputByte(wrong));
        }
        Twin.refusedElement(check, "P61 outputByte(-1)", Twin::rich, t -> t.outputByte(-1));
        Twin.refusedElement(check, "P61 outputByte(27)", Twin::rich, t -> t.outputByte(27));
    }

    // ---- promises 62 and 63 ----

    private static void p62Save() {
        LoafMarket m = new LoafMarket();
        for (int wrong : new int[] {-1, 2, MIN, MAX}) {
            check.dueIndex("P62 slot " + wrong, () -> m.save(wrong));
        }
        check.due("P62 the first slot, the hour", m.save(0), 3);
        m.passHours(2);
        check.due("P62 the last slot, the hour", m.save(1), 5);
        m.passHours(2);
        check.due("P63 the first slot", m.restore(0), 3);
        check.due("P63 the last slot", m.restore(1), 5);
        m.passHours(1);
        check.due("P62 over the first", m.save(0), 6);
        check.due("P63 the last slot is as it was", m.restore(1), 5);
        check.due("P63 the previous content is discarded", m.restore(0), 6);
        check.due("S8 save is not undoable", m.undoDepth(), 7);
        Twin.refusedIndex(check, "P62 save(-1)", Twin::rich, t -> t.save(-1));
        Twin.refusedIndex(check, "P62 save(2)", Twin::rich, t -> t.save(2));
        Twin.leaves(check, "P62 save", Twin::rich, t -> t.save(1), "market", "error", "output", "buffer", "undo");
        String before = Use.state(new LoafMarket());
        String[] changes = {"bake", "auction", "join", "send", "price", "scatter", "hours", "load"};
        for (String change : changes) {
            LoafMarket copy = new LoafMarket();
            copy.save(0);
            change(copy, change);
            copy.restore(0);
            check.dueText("P62 the copy does not follow " + change, Use.state(copy), before);
            change(copy, change);
            copy.restore(0);
            check.dueText("P63 the slot keeps its content after " + change, Use.state(copy), before);
        }
    }

    private static void change(LoafMarket m, String what) {
        switch (what) {
            case "bake":
                m.bake(0, 2);
                break;
            case "auction":
                m.auction(0);
                break;
            case "join":
                Use.join(m, "zoe", 1, 2, 3, 4, 5);
                break;
            case "send":
                m.sendAway(1);
                break;
            case "price":
                m.setBasePrice(1, 77);
                break;
            case "scatter":
                m.scatter(9);
                break;
            case "hours":
                m.passHours(25);
                break;
            case "restore":
                m.restore(1);
                break;
            default:
                Use.feed(m, "market 1 2 3;baker x 1 1;hours 9;");
                m.load();
                break;
        }
    }

    private static void p63Restore() {
        LoafMarket m = new LoafMarket();
        for (int wrong : new int[] {-1, 2, MIN, MAX}) {
            check.dueIndex("P63 slot " + wrong, () -> m.restore(wrong));
        }
        check.dueState("P63 slot 0 is empty", () -> m.restore(0));
        check.dueState("P63 slot 1 is empty", () -> m.restore(1));
        m.save(1);
        check.dueState("P63 slot 0 is empty yet", () -> m.restore(0));
        check.due("P63 slot 1 is not", m.restore(1), 3);
        check.due("S8 restore is undoable", m.undoDepth(), 1);
        Twin.refusedIndex(check, "P63 restore(-1)", Twin::rich, t -> t.restore(-1));
        Twin.refusedIndex(check, "P63 restore(2)", Twin::rich, t -> t.restore(2));
        Twin.Maker half = () -> {
            LoafMarket t = new LoafMarket();
            t.scatter(9);
            t.writeQueue();
            t.save(0);
            Use.feed(t, "market 5 6 7;hours 3;");
            return t;
        };
        Twin.refusedState(check, "P63 restore of an empty slot", half, t -> t.restore(1));
        Twin.leaves(check, "P63 restore", Twin::rich, t -> t.restore(1), "error", "output", "buffer", "slots");
        LoafMarket undone = new LoafMarket();
        undone.save(0);
        undone.scatter(9);
        undone.restore(0);
        check.due("P63 crumbs as they were", undone.crumbs(), 1);
        undone.undo();
        check.due("P64 undo of restore", undone.crumbs(), 10);
    }

    // ---- promises 64 and 65 and section 8 ----

    private static void p64Undo() {
        LoafMarket none = new LoafMarket();
        check.dueState("P64 no call is remembered", none::undo);
        Twin.Maker untouched = () -> {
            LoafMarket t = new LoafMarket();
            t.save(1);
            t.writeQueue();
            Use.feed(t, "market 5 6 7;hours 3;");
            return t;
        };
        Twin.refusedState(check, "P64 undo of nothing", untouched, LoafMarket::undo);
        for (int calls : new int[] {1, 2, 7, 8, 9, 10, 17}) {
            LoafMarket m = Use.loaded(M);
            m.undo();
            for (int i = 1; i <= calls; i++) {
                m.scatter(i);
            }
            int kept = calls < 8 ? calls : 8;
            int crumbs = calls * (calls + 1) / 2;
            for (int i = 0; i < kept; i++) {
                check.due("P64 calls left of " + calls, m.undo(), kept - 1 - i);
                crumbs -= calls - i;
                check.due("P64 the state before", m.crumbs(), 1 + crumbs);
            }
            check.dueState("P64 no more than " + kept + " of " + calls, m::undo);
            check.due("P64 and nothing changes", m.crumbs(), 1 + crumbs);
            m.scatter(50);
            check.due("P65 a new call", m.undoDepth(), 1);
            check.due("P64 is undone", m.undo(), 0);
            check.due("P64 the state before it", m.crumbs(), 1 + crumbs);
        }
    }

    private static void p65UndoDepth() {
        LoafMarket m = new LoafMarket();
        check.due("P65 none", m.undoDepth(), 0);
        for (int i = 1; i <= 20; i++) {
            m.scatter(1);
            check.due("P65 after " + i, m.undoDepth(), i < 8 ? i : 8);
        }
        m.undo();
        check.due("P65 one undone", m.undoDepth(), 7);
        m.scatter(1);
        check.due("P65 eight again", m.undoDepth(), 8);
        m.scatter(1);
        check.due("P65 never nine", m.undoDepth(), 8);
    }

    private static void s8Undoable() {
        String[] changes = {"bake", "auction", "join", "send", "price", "scatter", "hours", "load", "restore"};
        for (String what : changes) {
            LoafMarket m = new LoafMarket();
            m.setBasePrice(0, 50);
            m.save(1);
            m.setBasePrice(0, 20);
            String before = Use.state(m);
            change(m, what);
            check.due("S8 " + what + " is undoable", m.undoDepth(), 3);
            check.dueTrue("S8 " + what + " changes the market", !Use.state(m).equals(before));
            check.due("S8 undo of " + what, m.undo(), 2);
            check.dueText("S8 the state before " + what, Use.state(m), before);
            LoafMarket eight = new LoafMarket();
            eight.save(1);
            for (int i = 0; i < 8; i++) {
                eight.scatter(10);
            }
            change(eight, what);
            check.due("S8 the ninth call, " + what, eight.undoDepth(), 8);
            for (int i = 0; i < 8; i++) {
                eight.undo();
            }
            check.due("S8 the oldest call is remembered no more", eight.crumbs(), 11);
        }
        LoafMarket loads = new LoafMarket();
        loads.scatter(5);
        change(loads, "load");
        loads.scatter(6);
        check.due("S8 load does not discard the remembered calls", loads.undoDepth(), 3);
        loads.undo();
        check.due("S8 the market of the text", loads.hour(), 9);
        loads.undo();
        check.due("S8 the market before the text", loads.crumbs(), 6);
        loads.undo();
        check.due("S8 the first market", loads.crumbs(), 1);
    }

    /** Two markets that differ in everything; what only shows later is looked at an hour later. */
    private static void s8TheWholeState() {
        String one = "market 9 8 7;baker a 3 2;baker b 2 4;bake a rye;hours 2;customer x rye 2 9 30 9;customer y wheat 1 2 3 4;auction rye;bake b roll;sparrows 5 55;hours 1;";
        String two = "market 30 20 10;baker cc 1 1;hours 7;customer p roll 9 8 7 6;customer q rye 1 1 1 1;customer r rye 4 5 6 7;sparrows 1 11;";
        for (int hours = 0; hours <= 1; hours++) {
            String due = later(Use.loaded(one), hours);
            LoafMarket undone = Use.loaded(one);
            Use.feed(undone, two);
            undone.load();
            undone.undo();
            check.dueText("S8 undo of load, " + hours + " hours later", later(undone, hours), due);
            LoafMarket restored = Use.loaded(one);
            restored.save(1);
            Use.feed(restored, two);
            restored.load();
            restored.restore(1);
            check.dueText("S8 restore, " + hours + " hours later", later(restored, hours), due);
            restored = Use.loaded(two);
            restored.save(0);
            Use.feed(restored, one);
            restored.load();
            restored.restore(0);
            restored.undo();
            check.dueText("S8 undo of restore, " + hours + " hours later", later(restored, hours), due);
        }
    }

    private static String later(LoafMarket m, int hours) {
        Use.pass(m, hours);
        m.bake(0, 1);
        Use.join(m, "new", 1, 1, 1, 1, 1);
        return Use.state(m);
    }

    private static void s8NotUndoable() {
        Twin.Act[] acts = {t -> t.appendInput(1, 2, 3, 4, 5), t -> t.truncateInput(0), LoafMarket::writeQueue, t -> t.save(0), t -> t.save(1),
            t -> t.outputByte(0), LoafMarket::undoDepth};
        for (int i = 0; i < acts.length; i++) {
            Twin.leaves(check, "S8 act " + i, Twin::rich, acts[i], "undo");
        }
        Twin.Maker wrong = () -> {
            LoafMarket t = Twin.rich();
            Use.feed(t, "market 1 1 1;x");
            return t;
        };
        Twin.leaves(check, "S8 load with an error", wrong, LoafMarket::load, "undo", "market", "slots", "output");
        LoafMarket m = new LoafMarket();
        m.scatter(1);
        m.scatter(1);
        m.undo();
        check.due("S8 undo is no undoable call", m.undoDepth(), 1);
    }

    private static void s8NoPartOfTheState() {
        Twin.leaves(check, "S8 undo", Twin::rich, LoafMarket::undo, "error", "output", "buffer", "slots");
        LoafMarket m = new LoafMarket();
        m.scatter(1);
        Use.feed(m, "market 1 1 1;hours 61;");
        Twin.tryLoad(m);
        m.writeQueue();
        m.save(0);
        Use.feed(m, "zoe");
        m.undo();
        check.dueText("S8 the error is no part of the state", Twin.look("error", m), "2 at 19");
        check.dueText("S8 nor is the output", Use.output(m), "cid*2o@6 dot*3r@25 eli*2o@4");
        check.due("S8 nor is the buffer", m.joinQueue(0, 1, 1, 1, 1), 3);
        m.restore(0);
        check.due("S8 nor are the slots", m.crumbs(), 2);
        LoafMarket joined = named("zoe");
        joined.joinQueue(0, 1, 1, 1, 1);
        joined.undo();
        check.due("S8 undo of joinQueue does not bring the buffer back", Use.inputLength(joined), 0);
        LoafMarket loaded = Twin.rich();
        loaded.load();
        loaded.undo();
        check.due("S8 undo of load does not bring the buffer back", Use.inputLength(loaded), 0);
    }

    private static void s8QuestionsChangeNothing() {
        Twin.Act[] questions = {LoafMarket::errorCode, LoafMarket::errorPosition, LoafMarket::hour, LoafMarket::bakerCount, LoafMarket::customerCount, LoafMarket::loafCount,
            LoafMarket::crumbs, LoafMarket::sparrows, t -> t.bakerNameByte(0, 0), t -> t.ovenSize(0), t -> t.bakingKind(0), t -> t.hoursLeft(0), t -> t.income(0),
            t -> t.bakeRefusal(0, 0), t -> t.customerNameByte(0, 0), t -> t.ticketOf(0), t -> t.kindWanted(0), t -> t.wanted(0), t -> t.limitPrice(0), t -> t.purse(0),
            t -> t.patience(0), t -> t.customerWithTicket(1), t -> t.loafKind(0), t -> t.loafBaker(0), t -> t.loafAge(0), t -> t.reservePrice(0), t -> t.hoursUntilStale(0),
            t -> t.basePrice(0), t -> t.reserveAt(0, 99), LoafMarket::eventCount, t -> t.eventType(0), t -> t.eventFirst(0), t -> t.eventSecond(0), LoafMarket::moneyDifference,
            LoafMarket::loafDifference, t -> t.tradesAfter(0, 100), t -> t.bestHour(0), t -> (int) t.meanAge(), t -> (int) t.soldShare(), t -> t.outputByte(0), LoafMarket::undoDepth};
        for (int i = 0; i < questions.length; i++) {
            Twin.leaves(check, "S8 question " + i, Twin::rich, questions[i], Twin.PARTS);
        }
    }
}
