/** The edges that promises 41 to 51 and 59 and sections 5 and 6 name: hours, events, the future. */
public final class EdgeHourTest {
    private static final Check check = new Check("EdgeHourTest");
    private static final int MIN = Integer.MIN_VALUE;
    private static final int MAX = Integer.MAX_VALUE;

    public static void main(String[] args) {
        check.part("S5a", EdgeHourTest::s5aOvens);
        check.part("S5b", EdgeHourTest::s5bStaleLoaves);
        check.part("S5c", EdgeHourTest::s5cSparrowsEat);
        check.part("S5c", EdgeHourTest::s5cSparrowComes);
        check.part("S5c", EdgeHourTest::s5cSparrowLeaves);
        check.part("S5d", EdgeHourTest::s5dPatience);
        check.part("S5", EdgeHourTest::s5OrderWithinAnHour);
        check.part("S6", EdgeHourTest::s6Baked);
        check.part("S6", EdgeHourTest::s6Sold);
        check.part("S6", EdgeHourTest::s6Wasted);
        check.part("S6", EdgeHourTest::s6Left);
        check.part("S6 P41", EdgeHourTest::p41Thirty);
        check.part("S6 P41", EdgeHourTest::p41OthersMoveUp);
        check.part("P42 P43 P44", EdgeHourTest::p42p43p44Indexes);
        check.part("P45 P46", EdgeHourTest::p45p46Differences);
        check.part("P47 P48 P49", EdgeHourTest::p47p48p49Range);
        check.part("P47", EdgeHourTest::p47SparrowsAfter);
        check.part("P48", EdgeHourTest::p48LoavesAfter);
        check.part("P49", EdgeHourTest::p49TradesAfter);
        check.part("P50", EdgeHourTest::p50BestHour);
        check.part("P51", EdgeHourTest::p51MeanAge);
        check.part("P59", EdgeHourTest::p59PassHours);
        check.end();
    }

    // ---- section 5: an hour ----

    private static void s5aOvens() {
        LoafMarket m = Use.loaded("market 9 9 9;baker a 1 2;baker b 2 1;baker c 3 2;baker d 4 3;bake d roll;bake a rye;hours 1;bake c wheat;bake b roll;");
        check.due("S5a two hours: one is left", m.hoursLeft(0), 1);
        m.passHours(1);
        check.dueText("S5a by ascending numbers", Use.stock(m), "0:0:0 2:1:0 2:1:0");
        check.due("S5a c has an hour left", m.hoursLeft(2), 1);
        check.due("S5a d has an hour left", m.hoursLeft(3), 1);
        m.passHours(1);
        check.dueText("S5a in the current hour", Use.stock(m), "0:0:1 2:1:1 2:1:1 1:2:0 1:2:0 1:2:0 2:3:0 2:3:0 2:3:0 2:3:0");
        check.due("S5a who does not bake stays so", m.hoursLeft(0), 0);
        LoafMarket full = Use.loaded("market 99 9 9;baker a 12 1;baker b 12 1;baker c 12 1;baker d 12 1;bake a rye;hours 1;bake a rye;bake b rye;bake c rye;bake d rye;hours 1;");
        check.due("S5a the stock holds 60", full.loafCount(), 60);
        check.due("S5a the last of them", full.loafBaker(59), 3);
    }

    private static void s5bStaleLoaves() {
        LoafMarket m = Use.loaded("market 9 9 1;baker a 1 1;baker b 1 1;bake a roll;bake b rye;hours 1;bake b roll;hours 1;");
        check.due("S5b a roll of 3 hours stays", m.passHours(2), 0);
        check.due("S5b three loaves", m.loafCount(), 3);
        check.due("S5b a roll of 4 hours goes", m.passHours(1), 1);
        check.due("S5b it leaves 5 crumbs", m.crumbs(), 5);
        check.dueText("S5b the later numbers decrease", Use.stock(m), "0:1:4 2:1:3");
        check.due("S5b the last loaf goes", m.passHours(1), 1);
        check.dueText("S5b and the first stays", Use.stock(m), "0:1:5");
        LoafMarket many = Use.loaded("market 9 9 1;baker a 12 1;baker b 12 1;bake a roll;bake b roll;hours 1;hours 3;");
        check.due("S5b all at once", many.passHours(1), 24);
        check.due("S5b 5 crumbs each", many.crumbs(), 120);
    }

    private static void hour(String what, int sparrows, int crumbs, int sparrowsAfter, int crumbsAfter) {
        LoafMarket m = Use.loaded("market 1 1 1;sparrows " + sparrows + " " + crumbs + ";");
        check.due("P47 " + what, m.sparrowsAfter(1), sparrowsAfter);
        m.passHours(1);
        check.due("S5c sparrows: " + what, m.sparrows(), sparrowsAfter);
        check.due("S5c crumbs: " + what, m.crumbs(), crumbsAfter);
    }

    private static void s5cSparrowsEat() {
        hour("no sparrows eat nothing", 0, 7, 0, 7);
        hour("one eats 3 of 4", 1, 4, 1, 1);
        hour("one eats all 3", 1, 3, 0, 0);
        hour("one eats all 2", 1, 2, 0, 0);
        hour("two eat 6 of 7", 2, 7, 2, 1);
        hour("two eat all 6", 2, 6, 1, 0);
        hour("two eat all 5", 2, 5, 1, 0);
        hour("nine eat 27 of 28", 9, 28, 9, 1);
        hour("nine eat all 27", 9, 27, 8, 0);
        hour("nine eat all 26", 9, 26, 8, 0);
        hour("nine eat 27 of 999", 9, 999, 9, 972);
    }

    private static void s5cSparrowComes() {
        hour("20 crumbs bring none", 0, 20, 0, 20);
        hour("21 crumbs bring one", 0, 21, 1, 21);
        hour("20 crumbs are left after the meal", 1, 23, 1, 20);
        hour("21 crumbs are left after the meal", 1, 24, 2, 21);
        hour("the ninth comes", 8, 45, 9, 21);
        hour("the ninth does not come for 20", 8, 44, 8, 20);
        hour("no tenth comes", 9, 48, 9, 21);
        hour("only one comes", 0, 999, 1, 999);
    }

    private static void s5cSparrowLeaves() {
        hour("the last one leaves", 1, 0, 0, 0);
        hour("none is there to leave", 0, 0, 0, 0);
        hour("one crumb keeps them", 2, 7, 2, 1);
        hour("only one of nine leaves", 9, 0, 8, 0);
        hour("no crumbs and no sparrows", 0, 1, 0, 1);
    }

    private static void s5dPatience() {
        LoafMarket m = Use.loaded("market 1 1 1;customer p rye 1 1 5 2;customer q rye 1 1 6 1;customer r rye 1 1 7 3;customer s rye 1 1 8 1;customer t rye 1 1 9 99;");
        m.passHours(1);
        check.dueText("S5d one hour of patience is used up by an hour", Use.queue(m), "p*1r@1 r*1r@1 t*1r@1");
        check.due("S5d each loses one", m.patience(0) * 10000 + m.patience(1) * 100 + m.patience(2), 10298);
        check.dueText("S5d in the order of the queue", Use.events(m), "3:1:1 3:3:1");
        m.passHours(60);
        m.passHours(37);
        check.due("S5d 98 hours of 99", m.patience(0), 1);
        m.passHours(1);
        check.due("S5d 99 hours of 99", m.customerCount(), 0);
        check.due("P45 with their purses", m.moneyDifference(), 0);
    }

    private static void s5OrderWithinAnHour() {
        LoafMarket m = Use.loaded("market 9 9 1;baker a 1 4;baker b 1 1;bake b roll;hours 1;bake a rye;customer x rye 1 1 1 4;hours 3;sparrows 1 0;hours 1;");
        check.dueText("S5 baked, wasted, left", Use.events(m), "0:1:1 0:0:1 2:2:1 3:0:1");
        check.due("S5 the crumbs of a loaf wasted in this hour are eaten in it", m.crumbs(), 2);
        check.due("S5 and keep the sparrow", m.sparrows(), 1);
        LoafMarket bring = Use.loaded("market 9 9 1;baker a 1 1;bake a roll;hours 1;hours 3;sparrows 0 16;");
        bring.passHours(1);
        check.due("S5 16 and 5 crumbs bring a sparrow", bring.sparrows(), 1);
        check.due("S5 that eats only in the next hour", bring.crumbs(), 21);
        // the hour is incremented before the loaves are looked at
        LoafMarket next = Use.loaded("market 9 9 1;baker a 1 1;bake a roll;hours 1;hours 3;");
        check.due("S5 a roll of 3 hours is stale in the next", next.passHours(1), 1);
        LoafMarket eaten = Use.loaded("market 9 9 9;baker a 1 1;bake a rye;hours 1;customer x rye 1 9 9 1;hours 1;");
        check.due("S5 a customer without patience buys nothing", eaten.auction(0), 0);
    }

    // ---- section 6: events ----

    private static void s6Baked() {
        LoafMarket m = Use.loaded("market 9 9 9;baker a 1 1;baker b 12 1;baker c 5 1;baker d 12 1;bake d rye;hours 1;bake b roll;bake a rye;hours 1;");
        check.dueText("S6 baked: the baker; the number of loaves", Use.events(m), "0:3:12 0:0:1 0:1:12");
        check.dueText("S6 the beginning is no event", Use.events(Use.loaded("market 9 9 9;baker a 1 2;bake a rye;hours 1;")), "");
    }

    private static void s6Sold() {
        LoafMarket m = Use.loaded("market 9 9 9;baker a 3 1;bake a wheat;hours 1;customer x wheat 3 9 99 9;customer y rye 1 1 1 9;");
        m.auction(LoafMarket.RYE);
        check.dueText("S6 no event without trades", Use.events(m), "0:0:3");
        m.auction(LoafMarket.WHEAT);
        check.dueText("S6 sold: the kind; the price; once for three trades, and before left", Use.events(m), "0:0:3 1:1:9 3:0:0");
        m.auction(LoafMarket.WHEAT);
        check.due("S6 nothing is left to sell", m.eventCount(), 3);
    }

    private static void s6Wasted() {
        LoafMarket m = Use.loaded("market 9 1 1;baker a 1 1;baker b 2 1;bake b roll;hours 1;bake a roll;hours 1;hours 3;");
        check.dueText("S6 wasted: the kind; the baker; one for each loaf", Use.events(m), "0:1:2 0:0:1 2:2:1 2:2:1");
        LoafMarket kinds = Use.loaded("market 1 1 1;baker a 1 1;baker b 1 1;baker c 1 1;bake c rye;bake a wheat;bake b roll;hours 1;hours 4;hours 16;hours 5;");
        check.dueText("S6 wasted: roll, wheat and rye", Use.events(kinds), "0:0:1 0:1:1 0:2:1 2:2:1 2:1:0 2:0:2");
        LoafMarket number = Use.loaded("market 3 1 9;baker a 1 1;baker b 1 1;bake a rye;hours 1;hours 6;bake b wheat;hours 1;");
        check.due("S6 a rye loaf of 25 hours stays at 3", number.passHours(18), 0);
        number.setBasePrice(0, 1);
        number.setBasePrice(1, 1);
        check.due("S6 both in one hour", number.passHours(2), 2);
        check.dueText("S6 the first loaf first", Use.events(number), "0:0:1 0:1:1 2:0:0 2:1:1");
    }

    private static void s6Left() {
        LoafMarket m = Use.loaded("market 9 9 9;baker a 1 1;bake a rye;hours 1;customer p wheat 1 1 1 9;customer q rye 1 9 9 9;customer r wheat 1 1 1 1;auction rye;hours 1;");
        m.sendAway(0);
        check.dueText("S6 left: the ticket; 0 wanted no more, 1 no patience, 2 sent away", Use.events(m), "0:0:1 1:0:9 3:1:0 3:2:1 3:0:2");
    }

    // ---- promises 41 to 46 ----

    private static void p41Thirty() {
        LoafMarket m = Use.loaded("market 1 1 1;");
        check.due("S6 P41 none", m.eventCount(), 0);
        for (int number = 1; number <= 32; number++) {
            Use.join(m, "x", 0, 1, 1, 1, 1);
            m.sendAway(0);
            int count = number < 30 ? number : 30;
            check.due("S6 P41 after " + number + " events", m.eventCount(), count);
            check.due("S6 P43 the latest of " + number, m.eventFirst(count - 1), number - 1);
            check.due("S6 P43 the oldest of " + number, m.eventFirst(0), number - count);
        }
        StringBuilder due = new StringBuilder();
        for (int ticket = 2; ticket < 32; ticket++) {
            due.append(ticket == 2 ? "" : " ").append("3:").append(ticket).append(":2");
        }
        check.dueText("S6 P42 P43 P44 the latest 30 of 32", Use.events(m), due.toString());
        check.due("S6 P42 the type moves with it", m.eventType(0), LoafMarket.LEFT);
        check.due("P44 the second number moves with it", m.eventSecond(0), 2);
        // 30 baked loaves that are wasted in one hour push all others out
        String bakers = "market 1 1 1;baker a 12 1;baker b 12 1;baker c 6 1;";
        LoafMarket all = Use.loaded(bakers + "bake a roll;bake b roll;bake c roll;hours 1;hours 4;");
        check.due("S6 P41 30 events in an hour", all.eventCount(), 30);
        check.dueText("S6 P42 the oldest is the first one wasted", all.eventType(0) + ":" + all.eventFirst(0) + ":" + all.eventSecond(0), "2:2:0");
        LoafMarket kept = Use.loaded(bakers + "baker d 1 9;bake a roll;bake b roll;hours 1;bake d rye;hours 4;");
        check.due("S6 P41 26 events", kept.eventCount(), 26);
        check.due("S6 P42 the oldest is the first one baked", kept.eventType(0), LoafMarket.BAKED);
    }

    /** Thirty events of two types, and then one more. */
    private static void p41OthersMoveUp() {
        StringBuilder text = new StringBuilder("market 99 9 9;baker a 2 1;baker b 3 1;");
        String[] all = new String[30];
        for (int i = 0; i < 30; i++) {
            boolean first = i % 3 == 0;
            text.append(first ? "bake a rye;hours 1;" : i % 3 == 1 ? "bake b rye;hours 1;" : "customer c rye 1 1 1 1;hours 1;");
            all[i] = first ? "0:0:2" : i % 3 == 1 ? "0:1:3" : "3:" + i / 3 + ":1";
        }
        LoafMarket m = new LoafMarket();
        loadLong(m, text.toString());
        check.dueText("S6 P41 thirty events", Use.events(m), String.join(" ", all));
        m.bake(1, 0);
        m.passHours(1);
        check.dueText("S6 P41 the oldest is forgotten", Use.events(m), String.join(" ", java.util.Arrays.copyOfRange(all, 1, 30)) + " 0:1:3");
        m.undo();
        check.dueText("S8 and comes back with undo", Use.events(m), String.join(" ", all));
    }

    /** The text is longer than the buffer, so that its last statements come as calls. */
    private static void loadLong(LoafMarket m, String text) {
        int end = text.lastIndexOf(';', 599) + 1;
        Use.feed(m, text.substring(0, end));
        m.load();
        for (String statement : text.substring(end).split(";")) {
            String[] words = statement.split(" ");
            if (words[0].equals("bake")) {
                m.bake(words[1].charAt(0) - 'a', 0);
            } else if (words[0].equals("hours")) {
                m.passHours(1);
            } else {
                Use.join(m, words[1], 0, 1, 1, 1, 1);
            }
        }
    }

    private static void p42p43p44Indexes() {
        LoafMarket none = Use.loaded("market 1 1 1;");
        LoafMarket three = new LoafMarket();
        LoafMarket thirty = Use.loaded("market 1 1 1;baker a 12 1;baker b 12 1;baker c 12 1;bake a roll;bake b roll;bake c roll;hours 1;hours 4;");
        wrongEvents(none, 0);
        wrongEvents(three, 3);
        wrongEvents(thirty, 30);
        check.dueText("P42 P43 P44 the first of three", three.eventType(0) + ":" + three.eventFirst(0) + ":" + three.eventSecond(0), "0:1:3");
        check.dueText("P42 P43 P44 the last of three", three.eventType(2) + ":" + three.eventFirst(2) + ":" + three.eventSecond(2), "0:1:3");
        check.dueText("P42 P43 P44 the last of thirty", thirty.eventType(29) + ":" + thirty.eventFirst(29) + ":" + thirty.eventSecond(29), "2:2:2");
        Twin.refusedIndex(check, "P42 eventType(4)", Twin::rich, m -> m.eventType(4));
        Twin.refusedIndex(check, "P43 eventFirst(-1)", Twin::rich, m -> m.eventFirst(-1));
        Twin.refusedIndex(check, "P44 eventSecond(30)", Twin::rich, m -> m.eventSecond(30));
    }

    private static void wrongEvents(LoafMarket m, int count) {
        check.due("P41 events", m.eventCount(), count);
        for (int wrong : new int[] {-1, count, count + 1, 30, MIN, MAX}) {
            check.dueIndex("P42 event " + wrong + " of " + count, () -> m.eventType(wrong));
            check.dueIndex("P43 event " + wrong + " of " + count, () -> m.eventFirst(wrong));
            check.dueIndex("P44 event " + wrong + " of " + count, () -> m.eventSecond(wrong));
        }
    }

    private static void p45p46Differences() {
        LoafMarket m = Use.loaded("market 9 9 1;baker a 12 1;baker b 12 1;bake a roll;bake b rye;hours 1;customer p rye 9 99 999 99;customer q roll 1 9 9 9;customer r rye 1 1 0 2;customer s wheat 1 1 998 99;");
        Twin.Act[] acts = {t -> 0, t -> t.auction(0), t -> t.auction(2), t -> t.passHours(2), t -> t.sendAway(0), t -> t.passHours(60), t -> t.passHours(60),
            LoafMarket::undo, LoafMarket::undo, t -> t.bake(0, 1), t -> t.scatter(9), t -> t.save(0), t -> t.passHours(9), t -> t.restore(0),
            t -> Use.join(t, "z", 2, 9, 9, 999, 9), t -> t.auction(2)};
        for (int i = 0; i < acts.length; i++) {
            acts[i].run(m);
            check.due("P45 moneyDifference after act " + i, m.moneyDifference(), 0);
            check.due("P46 loafDifference after act " + i, m.loafDifference(), 0);
        }
        check.due("P45 of an empty market", Use.loaded("market 1 1 1;").moneyDifference(), 0);
        check.due("P46 of an empty market", Use.loaded("market 1 1 1;").loafDifference(), 0);
    }

    // ---- promises 47 to 50: the future ----

    private static void p47p48p49Range() {
        LoafMarket m = new LoafMarket();
        for (int wrong : new int[] {-1, 101, MIN, MAX}) {
            check.dueArgument("P47 sparrowsAfter(" + wrong + ")", () -> m.sparrowsAfter(wrong));
            check.dueArgument("P48 loavesAfter(" + wrong + ")", () -> m.loavesAfter(wrong));
            check.dueArgument("P49 tradesAfter(2, " + wrong + ")", () -> m.tradesAfter(2, wrong));
            check.dueIndex("P49 the kind is asked before the hours", () -> m.tradesAfter(3, wrong));
        }
        for (int wrong : new int[] {-1, 3, MIN, MAX}) {
            check.dueIndex("P49 kind " + wrong, () -> m.tradesAfter(wrong, 0));
            check.dueIndex("P50 kind " + wrong, () -> m.bestHour(wrong));
        }
        check.due("P47 after 0 hours", m.sparrowsAfter(0), 2);
        check.due("P48 after 0 hours", m.loavesAfter(0), 10);
        check.due("P49 after 0 hours", m.tradesAfter(0, 0), 2);
        check.due("S8 P49 at most 100 hours", m.tradesAfter(2, 100), 0);
        Twin.refusedArgument(check, "P47 sparrowsAfter(101)", Twin::rich, t -> t.sparrowsAfter(101));
        Twin.refusedArgument(check, "P48 loavesAfter(101)", Twin::rich, t -> t.loavesAfter(101));
        Twin.refusedArgument(check, "P49 tradesAfter(0, 101)", Twin::rich, t -> t.tradesAfter(0, 101));
        Twin.refusedIndex(check, "P49 tradesAfter(3, 0)", Twin::rich, t -> t.tradesAfter(3, 0));
        Twin.refusedIndex(check, "P50 bestHour(3)", Twin::rich, t -> t.bestHour(3));
        Twin.leaves(check, "P47 sparrowsAfter(100)", Twin::rich, t -> t.sparrowsAfter(100), Twin.PARTS);
        Twin.leaves(check, "P48 loavesAfter(100)", Twin::rich, t -> t.loavesAfter(100), Twin.PARTS);
        Twin.leaves(check, "P49 tradesAfter(2, 100)", Twin::rich, t -> t.tradesAfter(2, 100), Twin.PARTS);
        Twin.leaves(check, "P50 bestHour(2)", Twin::rich, t -> t.bestHour(2), Twin.PARTS);
    }

    /** Nine sparrows eat 2,700 crumbs in 100 hours. */
    private static void p47SparrowsAfter() {
        LoafMarket m = Use.loaded("market 1 1 1;sparrows 9 999;");
        for (int i = 0; i < 17; i++) {
            m.scatter(99);
        }
        m.scatter(18);
        check.due("P11 crumbs", m.crumbs(), 2700);
        check.due("P47 after 98 hours", m.sparrowsAfter(98), 9);
        check.due("P47 after 99 hours", m.sparrowsAfter(99), 9);
        check.due("S8 P47 at most 100 hours", m.sparrowsAfter(100), 8);
        check.due("P11 no crumb is gone", m.crumbs(), 2700);
        LoafMarket go = Use.loaded("market 1 1 1;sparrows 9 0;");
        for (int hours = 0; hours <= 11; hours++) {
            check.due("P47 they go one by one, " + hours, go.sparrowsAfter(hours), hours < 9 ? 9 - hours : 0);
        }
    }

    private static void p48LoavesAfter() {
        LoafMarket m = Use.loaded("market 99 9 9;baker a 12 9;baker b 1 1;bake b wheat;hours 1;bake a rye;");
        check.due("P48 an hour before they are baked", m.loavesAfter(8), 1);
        check.due("P48 when they are baked", m.loavesAfter(9), 13);
        check.due("P48 before the wheat loaf is stale", m.loavesAfter(19), 13);
        check.due("P48 when the wheat loaf is stale", m.loavesAfter(20), 12);
        check.due("P48 before the rye loaves are stale", m.loavesAfter(82), 12);
        check.due("P48 when the rye loaves are stale", m.loavesAfter(83), 0);
        check.due("S8 P48 at most 100 hours", m.loavesAfter(100), 0);
        check.due("P10 none has come meanwhile", m.loafCount(), 1);
    }

    private static void p49TradesAfter() {
        LoafMarket m = Use.loaded("market 40 20 8;baker a 2 3;baker b 1 1;bake b wheat;hours 1;bake a wheat;customer x wheat 9 15 135 20;customer y wheat 1 2 2 99;");
        check.due("P49 a loaf at 16", m.tradesAfter(1, 4), 0);
        check.due("P49 a loaf at 15", m.tradesAfter(1, 5), 1);
        check.due("P49 the others are baked, at 16", m.tradesAfter(1, 7), 1);
        check.due("P49 the others at 15", m.tradesAfter(1, 8), 3);
        check.due("P49 the first has an hour left", m.tradesAfter(1, 19), 3);
        check.due("P49 x has no patience left, and the loaves are at 3", m.tradesAfter(1, 20), 0);
        check.due("P49 the loaves are at 2", m.tradesAfter(1, 21), 1);
        check.due("P49 the last hour of the loaves", m.tradesAfter(1, 22), 1);
        check.due("P49 they are gone", m.tradesAfter(1, 23), 0);
        check.due("P49 another kind", m.tradesAfter(0, 8), 0);
        check.due("P35 none now", m.tradeCount(1), 0);
        check.due("P9 the customers are there", m.customerCount(), 2);
    }

    private static void p50BestHour() {
        check.due("P50 no loaves", Use.loaded("market 9 9 9;customer x rye 9 99 999 99;").bestHour(0), 0);
        check.due("P50 no customers", Use.loaded("market 9 9 9;baker a 9 1;bake a rye;hours 1;").bestHour(0), 0);
        // a rye loaf of 0 hours at 9 falls to 7 in 25 hours
        LoafMarket m = Use.loaded("market 9 9 9;baker a 1 1;bake a rye;hours 1;customer x rye 1 7 7 99;");
        check.due("P50 25 hours are too many", m.bestHour(0), 0);
        check.due("P49 though there is a trade then", m.tradesAfter(0, 25), 1);
        m.passHours(1);
        check.due("P50 24 hours are not", m.bestHour(0), 24);
        m.passHours(1);
        check.due("P50 23 hours", m.bestHour(0), 23);
        m.passHours(23);
        check.due("P50 now", m.bestHour(0), 0);
        // the sum counts, not the price, and of equal sums the first
        String two = "market 9 9 12;baker a 2 1;baker b 1 5;bake a roll;hours 1;";
        check.due("P50 12 now, 12 later", Use.loaded(two + "customer x roll 1 12 12 99;customer y roll 1 6 6 99;").bestHour(2), 0);
        check.due("P50 12 now, 14 later", Use.loaded(two + "customer x roll 1 12 12 99;customer y roll 2 7 14 99;").bestHour(2), 4);
        check.due("P50 12 now until x leaves", Use.loaded(two + "customer x roll 1 12 12 4;customer y roll 1 7 7 99;").bestHour(2), 0);
        check.due("P50 one coin is more than none", Use.loaded("market 9 9 1;baker a 1 9;bake a roll;hours 1;customer x roll 1 1 1 99;").bestHour(2), 8);
        LoafMarket other = Use.loaded(two + "customer y rye 1 7 7 99;");
        check.due("P50 another kind", other.bestHour(0), 0);
    }

    // ---- promises 51 and 59 ----

    private static void p51MeanAge() {
        check.dueD("P51 no loaves", Use.loaded("market 9 9 9;").meanAge(), 0.0);
        check.dueD("P51 one new loaf", Use.loaded("market 9 9 9;baker a 1 1;bake a rye;hours 1;").meanAge(), 0.0);
        check.dueD("P51 one old loaf", Use.loaded("market 9 9 9;baker a 1 1;bake a rye;hours 1;hours 7;").meanAge(), 7.0);
        LoafMarket m = Use.loaded("market 9 9 9;baker a 2 1;baker b 1 1;bake a rye;hours 1;bake b rye;hours 1;");
        check.dueD("P51 two thirds", m.meanAge(), 2.0 / 3.0);
        m.passHours(1);
        check.dueD("P51 five thirds", m.meanAge(), 5.0 / 3.0);
        LoafMarket gone = Use.loaded("market 9 9 1;baker a 1 1;bake a roll;hours 1;hours 4;");
        check.dueD("P51 a wasted loaf does not count", gone.meanAge(), 0.0);
    }

    private static void p59PassHours() {
        LoafMarket m = new LoafMarket();
        for (int wrong : new int[] {-1, 0, 61, MIN, MAX}) {
            check.dueArgument("P59 passHours(" + wrong + ")", () -> m.passHours(wrong));
        }
        check.due("P59 one hour", m.passHours(1), 0);
        check.due("P7 one hour", m.hour(), 4);
        check.due("P59 sixty hours waste all", m.passHours(60), 10);
        check.due("P7 sixty hours", m.hour(), 64);
        check.due("P59 nothing is left to waste", m.passHours(60), 0);
        check.due("S8 undoable as one call each", m.undoDepth(), 3);
        m.undo();
        check.due("S8 sixty hours back", m.hour(), 64);
        LoafMarket exact = Use.loaded("market 9 9 1;baker a 5 1;baker b 3 2;bake a roll;bake b roll;hours 1;");
        check.due("P59 until an hour before the second", exact.passHours(4), 5);
        check.due("P59 those of these hours alone", exact.passHours(1), 3);
        Twin.refusedArgument(check, "P59 passHours(0)", Twin::rich, t -> t.passHours(0));
        Twin.refusedArgument(check, "P59 passHours(61)", Twin::rich, t -> t.passHours(61));
        Twin.leaves(check, "P59 passHours(60)", Twin::rich, t -> t.passHours(60), "error", "output", "buffer", "slots");
    }
}
