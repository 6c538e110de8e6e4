/** The edges that promises 7 to 33 and sections 1 to 3 name: bakers, customers, loaves, prices. */
public final class EdgeQuestionTest {
    private static final Check check = new Check("EdgeQuestionTest");
    private static final int MIN = Integer.MIN_VALUE;
    private static final int MAX = Integer.MAX_VALUE;
    private static final String M = "market 20 10 8;";
    private static final String FOUR = M + "baker a 1 1;baker bcde 12 9;baker fg 5 3;baker hij 2 2;bake bcde roll;bake fg wheat;";
    private static final String TEN = M + "customer a rye 9 99 999 99;customer bcde wheat 1 1 0 1;customer f roll 2 3 4 5;customer g rye 1 1 1 6;customer h rye 1 1 1 7;"
            + "customer i rye 1 1 1 8;customer j rye 1 1 1 9;customer k rye 1 1 1 9;customer l rye 1 1 1 9;customer mn roll 8 98 998 98;";
    /** Bakers of 12, 11, 1 and 2 loaves, and 48 loaves of 3, 2, 1 and 0 hours. */
    private static final String MANY = "market 99 50 40;baker a 12 1;baker b 11 1;baker c 1 1;baker d 2 1;"
            + "bake a rye;hours 1;bake a rye;hours 1;bake a rye;hours 1;bake a rye;hours 1;";

    public static void main(String[] args) {
        check.part("P7", EdgeQuestionTest::p7Hour);
        check.part("P8 P9 P10", EdgeQuestionTest::p8p9p10Counts);
        check.part("P11 P12", EdgeQuestionTest::p11p12CrumbsAndSparrows);
        check.part("P13 P14 P15 P16 P17 P18", EdgeQuestionTest::bakerIndexes);
        check.part("P13", EdgeQuestionTest::p13BakerNameByte);
        check.part("P14", EdgeQuestionTest::p14OvenSize);
        check.part("P15 P16", EdgeQuestionTest::p15p16BakingKindAndHoursLeft);
        check.part("P17", EdgeQuestionTest::p17Income);
        check.part("P18", EdgeQuestionTest::p18Refusal);
        check.part("P19 P20 P21 P22 P23 P24 P25", EdgeQuestionTest::customerIndexes);
        check.part("P19", EdgeQuestionTest::p19CustomerNameByte);
        check.part("P20 P21 P22 P23 P24 P25", EdgeQuestionTest::p20to25Customers);
        check.part("P26", EdgeQuestionTest::p26CustomerWithTicket);
        check.part("P27 P28 P29 P30 P31", EdgeQuestionTest::loafIndexes);
        check.part("S2 P27 P28", EdgeQuestionTest::p27p28LoavesMoveUp);
        check.part("P29", EdgeQuestionTest::p29LoafAge);
        check.part("P30", EdgeQuestionTest::p30ReservePrice);
        check.part("P31", EdgeQuestionTest::p31HoursUntilStale);
        check.part("P32", EdgeQuestionTest::p32BasePrice);
        check.part("P33", EdgeQuestionTest::p33ReserveAt);
        check.part("S2", EdgeQuestionTest::s2Bakers);
        check.part("S2", EdgeQuestionTest::s2Reasons);
        check.part("S3", EdgeQuestionTest::s3OrderAndTickets);
        check.part("S3", EdgeQuestionTest::s3Names);
        check.part("S1", EdgeQuestionTest::s1Rye);
        check.part("S1", EdgeQuestionTest::s1Wheat);
        check.part("S1", EdgeQuestionTest::s1Roll);
        check.end();
    }

    // ---- promises 7 to 12 ----

    private static void p7Hour() {
        check.due("P7 0 at first", Use.loaded(M).hour(), 0);
        check.due("P7 no hours passed", Use.loaded(M + "hours 0;").hour(), 0);
        LoafMarket m = Use.loaded(M + "hours 60;");
        check.due("P7 60 hours in the text", m.hour(), 60);
        m.passHours(1);
        check.due("P7 one more", m.hour(), 61);
        m.passHours(60);
        check.due("P7 60 more", m.hour(), 121);
    }

    private static void p8p9p10Counts() {
        LoafMarket none = Use.loaded(M);
        check.due("P8 no bakers", none.bakerCount(), 0);
        check.due("P9 no customers", none.customerCount(), 0);
        check.due("P10 no loaves", none.loafCount(), 0);
        check.due("P8 four bakers", Use.loaded(FOUR).bakerCount(), 4);
        LoafMarket ten = Use.loaded(TEN);
        check.due("P9 ten customers", ten.customerCount(), 10);
        ten.passHours(1);
        check.due("P9 one left", ten.customerCount(), 9);
        check.due("P10 loaves in an oven do not count", Use.loaded(FOUR).loafCount(), 0);
        check.due("P10 sixty loaves", full().loafCount(), 60);
    }

    private static LoafMarket full() {
        return Use.loaded(MANY + "bake b rye;bake c rye;hours 1;");
    }

    private static void p11p12CrumbsAndSparrows() {
        check.due("P11 no crumbs", Use.loaded(M).crumbs(), 0);
        check.due("P12 no sparrows", Use.loaded(M).sparrows(), 0);
        LoafMarket most = Use.loaded(M + "sparrows 9 999;");
        check.due("P11 999 crumbs", most.crumbs(), 999);
        check.due("P12 nine sparrows", most.sparrows(), 9);
        most.scatter(1);
        check.due("P11 the bound of the text is none for scatter", most.crumbs(), 1000);
    }

    // ---- promises 13 to 18: bakers ----

    /** A number below, at and above the last baker, for 0, 1 and 4 bakers. */
    private static void bakerIndexes() {
        for (int count : new int[] {0, 1, 4}) {
            LoafMarket m = Use.loaded(count == 0 ? M : count == 1 ? M + "baker a 1 1;" : FOUR);
            for (int wrong : new int[] {-1, count, count + 1, MIN, MAX}) {
                check.dueIndex("P13 bakerNameByte of " + wrong + " of " + count, () -> m.bakerNameByte(wrong, 0));
                check.dueIndex("P13 the baker is asked before the position", () -> m.bakerNameByte(wrong, -1));
                check.dueIndex("P14 ovenSize of " + wrong + " of " + count, () -> m.ovenSize(wrong));
                check.dueIndex("P15 bakingKind of " + wrong + " of " + count, () -> m.bakingKind(wrong));
                check.dueIndex("P16 hoursLeft of " + wrong + " of " + count, () -> m.hoursLeft(wrong));
                check.dueIndex("P17 income of " + wrong + " of " + count, () -> m.income(wrong));
                check.dueIndex("P18 bakeRefusal of " + wrong + " of " + count, () -> m.bakeRefusal(wrong, 0));
            }
        }
        LoafMarket four = Use.loaded(FOUR);
        check.due("P14 the first baker's oven", four.ovenSize(0), 1);
        check.due("P14 the last baker's oven", four.ovenSize(3), 2);
        for (int wrong : new int[] {-1, 3, MIN, MAX}) {
            check.dueIndex("P18 bakeRefusal of kind " + wrong, () -> four.bakeRefusal(0, wrong));
            check.dueIndex("P18 bakeRefusal of kind " + wrong + " for one who bakes", () -> four.bakeRefusal(1, wrong));
        }
        Twin.refusedIndex(check, "P13 bakerNameByte(2, 0)", Twin::rich, m -> m.bakerNameByte(2, 0));
        Twin.refusedIndex(check, "P18 bakeRefusal(0, 3)", Twin::rich, m -> m.bakeRefusal(0, 3));
    }

    private static void p13BakerNameByte() {
        LoafMarket m = Use.loaded(FOUR);
        String[] names = {"a", "bcde", "fg", "hij"};
        for (int i = 0; i < 4; i++) {
            int baker = i;
            int length = names[i].length();
            for (int at = 0; at < length; at++) {
                check.due("P13 letter " + at + " of " + names[i], m.bakerNameByte(i, at), names[i].charAt(at));
            }
            for (int wrong : new int[] {-1, length, length + 1, 4, 5, 32, MIN, MAX}) {
                check.dueElement("P13 letter " + wrong + " of " + names[i], () -> m.bakerNameByte(baker, wrong));
            }
        }
        Twin.refusedElement(check, "P13 bakerNameByte(0, 3)", Twin::rich, t -> t.bakerNameByte(0, 3));
    }

    private static void p14OvenSize() {
        for (int size : new int[] {1, 2, 11, 12}) {
            LoafMarket m = Use.loaded(M + "baker a " + size + " 1;bake a rye;hours 1;");
            check.due("P14 an oven of " + size, m.ovenSize(0), size);
            check.due("S5 as many loaves as the oven size", m.loafCount(), size);
        }
    }

    private static void p15p16BakingKindAndHoursLeft() {
        for (int time : new int[] {1, 2, 8, 9}) {
            LoafMarket m = Use.loaded(M + "baker a 1 " + time + ";");
            check.due("P15 does not bake", m.bakingKind(0), LoafMarket.NONE);
            check.due("P16 does not bake", m.hoursLeft(0), 0);
            m.bake(0, time % 3);
            for (int left = time; left > 0; left--) {
                check.due("P15 bakes", m.bakingKind(0), time % 3);
                check.due("P16 hours left of " + time, m.hoursLeft(0), left);
                check.due("P10 nothing baked yet", m.loafCount(), 0);
                m.passHours(1);
            }
            check.due("P15 bakes no more", m.bakingKind(0), LoafMarket.NONE);
            check.due("P16 bakes no more", m.hoursLeft(0), 0);
            check.due("P10 baked", m.loafCount(), 1);
            m.passHours(1);
            check.due("P10 only once", m.loafCount(), 1);
        }
        for (int kind = 0; kind < 3; kind++) {
            LoafMarket m = new LoafMarket();
            m.bake(1, kind);
            check.due("P15 the kind " + kind, m.bakingKind(1), kind);
            check.due("P15 the other baker", m.bakingKind(0), LoafMarket.NONE);
        }
    }

    private static void p17Income() {
        String text = "market 9 9 9;baker a 2 1;baker b 1 1;bake a rye;hours 1;customer c rye 1 9 9 9;";
        LoafMarket m = Use.loaded(text + "auction rye;customer d rye 1 9 9 9;");
        check.due("P17 received in the text", m.income(0), 9);
        check.due("P17 the other baker", m.income(1), 0);
        m.auction(0);
        check.due("P17 received since", m.income(0), 18);
        m.undo();
        check.due("P17 undone", m.income(0), 9);
        Use.feed(m, text);
        m.load();
        check.due("P17 since the latest load", m.income(0), 0);
    }

    private static void p18Refusal() {
        LoafMarket m = Use.loaded(MANY);
        refusal(m, "48 in stock", 0, 0, 0, 0);
        m.bake(1, 2);
        refusal(m, "48 in stock and 11 in an oven", 2, 1, 0, 2);
        m.passHours(1);
        refusal(m, "59 in stock", 2, 2, 0, 2);
        m.bake(2, 1);
        refusal(m, "59 in stock and 1 in an oven", 2, 2, 1, 2);
        m.passHours(1);
        refusal(m, "60 in stock", 2, 2, 2, 2);
        LoafMarket both = Use.loaded(MANY + "bake a rye;");
        refusal(both, "48 in stock and 12 in an oven: bakes already is the first reason", 1, 2, 2, 2);
        LoafMarket sold = Use.loaded(MANY + "bake b rye;bake c rye;hours 1;customer x rye 1 99 99 9;auction rye;");
        refusal(sold, "one of 60 sold", 2, 2, 0, 2);
        LoafMarket wasted = Use.loaded("market 9 9 1;baker a 12 1;baker b 12 1;baker c 12 1;baker d 12 1;bake a roll;hours 1;hours 3;"
                + "bake a rye;bake b rye;bake c rye;bake d rye;");
        refusal(wasted, "12 in stock and 48 in ovens", 1, 1, 1, 1);
        wasted.passHours(1);
        refusal(wasted, "48 left when 12 of 60 are stale", 0, 0, 0, 0);
    }

    private static void refusal(LoafMarket m, String what, int... due) {
        for (int baker = 0; baker < due.length; baker++) {
            for (int kind = 0; kind < 3; kind++) {
                check.due("P18 " + what + ", baker " + baker, m.bakeRefusal(baker, kind), due[baker]);
            }
        }
    }

    // ---- promises 19 to 26: customers ----

    private static void customerIndexes() {
        for (int count : new int[] {0, 1, 10}) {
            LoafMarket m = Use.loaded(count == 0 ? M : count == 1 ? M + "customer a rye 1 1 1 1;" : TEN);
            for (int wrong : new int[] {-1, count, count + 1, MIN, MAX}) {
                String at = " of " + wrong + " of " + count;
                check.dueIndex("P19 customerNameByte" + at, () -> m.customerNameByte(wrong, 0));
                check.dueIndex("P19 the customer is asked before the position", () -> m.customerNameByte(wrong, -1));
                check.dueIndex("P20 ticketOf" + at, () -> m.ticketOf(wrong));
                check.dueIndex("P21 kindWanted" + at, () -> m.kindWanted(wrong));
                check.dueIndex("P22 wanted" + at, () -> m.wanted(wrong));
                check.dueIndex("P23 limitPrice" + at, () -> m.limitPrice(wrong));
                check.dueIndex("P24 purse" + at, () -> m.purse(wrong));
                check.dueIndex("P25 patience" + at, () -> m.patience(wrong));
            }
        }
        LoafMarket left = new LoafMarket();
        left.sendAway(0);
        check.due("P20 the last one left", left.ticketOf(1), 2);
        check.dueIndex("P20 the place of one who left", () -> left.ticketOf(2));
        Twin.refusedIndex(check, "P20 ticketOf(2)", Twin::rich, m -> m.ticketOf(2));
        Twin.refusedIndex(check, "P25 patience(-1)", Twin::rich, m -> m.patience(-1));
    }

    private static void p19CustomerNameByte() {
        LoafMarket m = Use.loaded(TEN);
        int[] customers = {0, 1, 9};
        String[] names = {"a", "bcde", "mn"};
        for (int i = 0; i < 3; i++) {
            int customer = customers[i];
            int length = names[i].length();
            for (int at = 0; at < length; at++) {
                check.due("P19 letter " + at + " of " + names[i], m.customerNameByte(customer, at), names[i].charAt(at));
            }
            for (int wrong : new int[] {-1, length, length + 1, 4, 5, 32, MIN, MAX}) {
                check.dueElement("P19 letter " + wrong + " of " + names[i], () -> m.customerNameByte(customer, wrong));
            }
        }
        Twin.refusedElement(check, "P19 customerNameByte(0, 3)", Twin::rich, t -> t.customerNameByte(0, 3));
    }

    private static void p20to25Customers() {
        LoafMarket m = Use.loaded(TEN);
        customer(m, 0, 0, 0, 9, 99, 999, 99);
        customer(m, 1, 1, 1, 1, 1, 0, 1);
        customer(m, 2, 2, 2, 2, 3, 4, 5);
        customer(m, 9, 9, 2, 8, 98, 998, 98);
        m.passHours(1);
        customer(m, 1, 2, 2, 2, 3, 4, 4);
        customer(m, 8, 9, 2, 8, 98, 998, 97);
        LoafMarket buys = Use.loaded("market 9 9 9;baker a 3 1;bake a rye;hours 1;customer b rye 5 10 59 9;");
        buys.auction(0);
        customer(buys, 0, 0, 0, 2, 10, 59 - 27 - 3, 9);
    }

    private static void customer(LoafMarket m, int place, int ticket, int kind, int wanted, int limit, int purse, int patience) {
        check.due("P20 ticketOf " + place, m.ticketOf(place), ticket);
        check.due("P21 kindWanted " + place, m.kindWanted(place), kind);
        check.due("P22 wanted " + place, m.wanted(place), wanted);
        check.due("P23 limitPrice " + place, m.limitPrice(place), limit);
        check.due("P24 purse " + place, m.purse(place), purse);
        check.due("P25 patience " + place, m.patience(place), patience);
    }

    private static void p26CustomerWithTicket() {
        LoafMarket none = Use.loaded(M);
        for (int ticket : new int[] {-1, 0, 1, MIN, MAX}) {
            check.due("P26 ticket " + ticket + " of an empty queue", none.customerWithTicket(ticket), LoafMarket.NONE);
        }
        LoafMarket m = Use.loaded(TEN);
        for (int ticket = 0; ticket < 10; ticket++) {
            check.due("P26 ticket " + ticket, m.customerWithTicket(ticket), ticket);
        }
        for (int ticket : new int[] {-1, 10, MIN, MAX}) {
            check.due("P26 ticket " + ticket + " of ten", m.customerWithTicket(ticket), LoafMarket.NONE);
        }
        // ticket 1 has no patience left after an hour
        m.passHours(1);
        m.sendAway(0);
        check.due("S3 a ticket that left", m.customerWithTicket(1), LoafMarket.NONE);
        check.due("S3 a ticket sent away", m.customerWithTicket(0), LoafMarket.NONE);
        check.due("P26 the first one now", m.customerWithTicket(2), 0);
        check.due("P26 the last one now", m.customerWithTicket(9), 7);
        check.due("S3 tickets are never used again", Use.join(m, "a", 0, 1, 1, 1, 1), 10);
        check.due("P26 the new one", m.customerWithTicket(10), 8);
        LoafMarket sold = Use.loaded("market 9 9 9;baker a 1 1;bake a rye;hours 1;customer b rye 1 9 9 9;auction rye;customer b rye 1 9 9 9;");
        check.due("S3 nor that of one who bought", sold.ticketOf(0), 1);
        check.due("P26 one who bought", sold.customerWithTicket(0), LoafMarket.NONE);
    }

    // ---- promises 27 to 31: loaves ----

    private static void loafIndexes() {
        for (int count : new int[] {0, 1, 60}) {
            LoafMarket m = count == 0 ? Use.loaded(M) : count == 1 ? Use.loaded(M + "baker a 1 1;bake a roll;hours 1;") : full();
            for (int wrong : new int[] {-1, count, count + 1, MIN, MAX}) {
                String at = " of " + wrong + " of " + count;
                check.dueIndex("P27 loafKind" + at, () -> m.loafKind(wrong));
                check.dueIndex("P28 loafBaker" + at, () -> m.loafBaker(wrong));
                check.dueIndex("P29 loafAge" + at, () -> m.loafAge(wrong));
                check.dueIndex("P30 reservePrice" + at, () -> m.reservePrice(wrong));
                check.dueIndex("P31 hoursUntilStale" + at, () -> m.hoursUntilStale(wrong));
            }
        }
        LoafMarket m = full();
        check.due("P28 the first of sixty", m.loafBaker(0), 0);
        check.due("P28 the last of sixty", m.loafBaker(59), 2);
        check.due("P28 the last but one", m.loafBaker(58), 1);
        check.due("P29 the first of sixty", m.loafAge(0), 4);
        check.due("P29 the last of sixty", m.loafAge(59), 0);
        Twin.refusedIndex(check, "P27 loafKind(10)", Twin::rich, t -> t.loafKind(10));
        Twin.refusedIndex(check, "P31 hoursUntilStale(-1)", Twin::rich, t -> t.hoursUntilStale(-1));
    }

    private static void p27p28LoavesMoveUp() {
        LoafMarket each = Use.loaded("market 9 9 9;baker a 1 1;baker b 1 1;baker c 1 1;baker d 2 1;bake a roll;bake b rye;bake c wheat;bake d roll;hours 1;");
        int[] kinds = {2, 0, 1, 2, 2};
        for (int loaf = 0; loaf < 5; loaf++) {
            check.due("P27 the kind of loaf " + loaf, each.loafKind(loaf), kinds[loaf]);
            check.due("P28 the baker of loaf " + loaf, each.loafBaker(loaf), loaf < 3 ? loaf : 3);
        }
        String text = "market 9 9 1;baker a 1 1;baker b 1 1;baker c 1 1;bake a rye;bake b roll;bake c wheat;hours 1;";
        check.dueText("S2 in the order in which they came", Use.stock(Use.loaded(text)), "0:0:0 2:1:0 1:2:0");
        LoafMarket sold = Use.loaded(text + "customer x rye 1 9 9 9;auction rye;");
        check.dueText("S2 the first is sold", Use.stock(sold), "2:1:0 1:2:0");
        LoafMarket middle = Use.loaded(text + "customer x roll 1 9 9 9;auction roll;");
        check.dueText("S2 the middle one is sold", Use.stock(middle), "0:0:0 1:2:0");
        LoafMarket last = Use.loaded(text + "customer x wheat 1 9 9 9;auction wheat;");
        check.dueText("S2 the last is sold", Use.stock(last), "0:0:0 2:1:0");
        LoafMarket wasted = Use.loaded(text + "hours 4;");
        check.dueText("S2 the middle one is stale", Use.stock(wasted), "0:0:4 1:2:4");
        LoafMarket more = Use.loaded(text + "hours 4;bake b rye;hours 1;");
        check.dueText("S2 a new one comes last", Use.stock(more), "0:0:5 1:2:5 0:1:0");
    }

    private static void p29LoafAge() {
        LoafMarket m = Use.loaded("market 99 9 9;hours 60;baker a 1 1;bake a rye;hours 1;");
        check.due("P29 in the hour in which it was baked", m.loafAge(0), 0);
        m.passHours(1);
        check.due("P29 an hour later", m.loafAge(0), 1);
        m.passHours(60);
        check.due("P29 61 hours later", m.loafAge(0), 61);
        m.passHours(12);
        check.due("P29 the oldest there is", m.loafAge(0), 73);
        m.passHours(1);
        check.due("P10 it is gone", m.loafCount(), 0);
    }

    private static void p30ReservePrice() {
        LoafMarket m = Use.loaded("market 9 9 9;baker a 1 1;baker b 1 1;baker c 1 1;bake a rye;bake b wheat;bake c roll;hours 1;");
        for (int i = 0; i < 3; i++) {
            check.due("P30 new, of kind " + i, m.reservePrice(i), 9);
        }
        m.setBasePrice(1, 99);
        check.due("P30 only this kind follows", m.reservePrice(0) * 10000 + m.reservePrice(1) * 100 + m.reservePrice(2), 99909);
        m.setBasePrice(2, 1);
        m.passHours(3);
        check.due("P30 a roll of 3 hours", m.reservePrice(2), 1);
        m.setBasePrice(2, 9);
        m.passHours(1);
        check.due("P30 a roll of 4 hours", m.reservePrice(2), 4);
        m.setBasePrice(2, 1);
        check.due("P30 stale by its base price, and in the stock yet", m.reservePrice(2), 0);
    }

    private static void p31HoursUntilStale() {
        int[][] due = {{0, 1, 25}, {0, 2, 25}, {0, 3, 26}, {0, 98, 73}, {0, 99, 74}, {1, 1, 20}, {1, 20, 20}, {1, 99, 20},
            {2, 1, 4}, {2, 2, 8}, {2, 3, 8}, {2, 4, 12}, {2, 63, 24}, {2, 64, 28}, {2, 99, 28}};
        String[] kinds = {"rye", "wheat", "roll"};
        for (int[] d : due) {
            LoafMarket m = Use.loaded("market " + d[1] + " " + d[1] + " " + d[1] + ";baker a 1 1;bake a " + kinds[d[0]] + ";hours 1;");
            String what = "P31 " + kinds[d[0]] + " at " + d[1];
            check.due(what, m.hoursUntilStale(0), d[2]);
            Use.pass(m, d[2] - 1);
            check.due(what + ", an hour before", m.hoursUntilStale(0), 1);
            check.due(what + " is in the stock an hour before", m.loafCount(), 1);
            check.due(what + " is wasted then", m.passHours(1), 1);
        }
        LoafMarket now = Use.loaded("market 9 9 9;baker a 1 1;bake a roll;hours 1;hours 4;");
        now.setBasePrice(2, 2);
        check.due("P31 one more hour than none", now.hoursUntilStale(0), 4);
        now.setBasePrice(2, 1);
        check.due("P31 stale now", now.hoursUntilStale(0), 0);
        LoafMarket since = Use.loaded("market 9 9 9;baker a 1 1;bake a roll;hours 1;hours 7;");
        since.setBasePrice(2, 1);
        check.due("P31 stale since three hours, were it this price then", since.hoursUntilStale(0), 0);
        Twin.leaves(check, "P31 hoursUntilStale", Twin::rich, m -> m.hoursUntilStale(0), Twin.PARTS);
    }

    // ---- promises 32 and 33 and section 1: prices ----

    private static void p32BasePrice() {
        LoafMarket m = Use.loaded("market 1 50 99;");
        check.due("P32 rye", m.basePrice(LoafMarket.RYE), 1);
        check.due("P32 wheat", m.basePrice(LoafMarket.WHEAT), 50);
        check.due("P32 roll", m.basePrice(LoafMarket.ROLL), 99);
        for (int wrong : new int[] {-1, 3, MIN, MAX}) {
            check.dueIndex("P32 basePrice of " + wrong, () -> m.basePrice(wrong));
        }
        Twin.refusedIndex(check, "P32 basePrice(3)", Twin::rich, t -> t.basePrice(3));
    }

    private static void p33ReserveAt() {
        LoafMarket m = Use.loaded("market 99 99 99;");
        for (int kind = 0; kind < 3; kind++) {
            int asked = kind;
            check.due("P33 age 0 of kind " + kind, m.reserveAt(kind, 0), 99);
            check.due("P33 age 998 of kind " + kind, m.reserveAt(kind, 998), 0);
            check.due("P33 age 999 of kind " + kind, m.reserveAt(kind, 999), 0);
            for (int wrong : new int[] {-1, 1000, MIN, MAX}) {
                check.dueArgument("P33 age " + wrong + " of kind " + kind, () -> m.reserveAt(asked, wrong));
            }
        }
        for (int wrong : new int[] {-1, 3, MIN, MAX}) {
            check.dueIndex("P33 kind " + wrong, () -> m.reserveAt(wrong, 0));
            check.dueIndex("P33 kind " + wrong + " is asked before the age", () -> m.reserveAt(wrong, 1000));
        }
        Twin.refusedIndex(check, "P33 reserveAt(3, 1000)", Twin::rich, t -> t.reserveAt(3, 1000));
        Twin.refusedArgument(check, "P33 reserveAt(0, 1000)", Twin::rich, t -> t.reserveAt(0, 1000));
    }

    // ---- sections 1 to 3 ----

    private static void s2Bakers() {
        LoafMarket m = Use.loaded(FOUR);
        check.due("S2 at most 4 bakers", m.bakerCount(), 4);
        check.dueText("S2 a fifth one is refused", Use.verdict(FOUR + "baker z 1 1;"), "5 at " + FOUR.length());
        String[] names = {"a", "bcde", "fg", "hij"};
        int[] ovens = {1, 12, 5, 2};
        int[] kinds = {LoafMarket.NONE, 2, 1, LoafMarket.NONE};
        int[] left = {0, 9, 3, 0};
        for (int i = 0; i < 4; i++) {
            check.dueText("S2 numbered in the order of the text", Use.bakerName(m, i), names[i]);
            check.due("S2 the oven of " + names[i], m.ovenSize(i), ovens[i]);
            check.due("S2 the kind that is baked by " + names[i], m.bakingKind(i), kinds[i]);
            check.due("S2 the hours left of " + names[i], m.hoursLeft(i), left[i]);
        }
    }

    private static void s2Reasons() {
        LoafMarket room = Use.loaded(MANY + "bake b rye;");
        check.due("S2 1, the baker bakes already", room.bakeRefusal(1, 0), 1);
        check.due("S2 48, 11 and 1 are 60", room.bakeRefusal(2, 0), 0);
        check.due("S2 2, as 48, 11 and 2 are 61", room.bakeRefusal(3, 0), 2);
        room.bake(2, 0);
        check.due("S2 1 is the first reason where both apply", room.bakeRefusal(1, 0), 1);
        room.passHours(1);
        check.due("S2 at most 60 loaves", room.loafCount(), 60);
        for (int baker = 0; baker < 4; baker++) {
            int refused = baker;
            check.due("S2 2 for all", room.bakeRefusal(baker, 0), 2);
            check.dueState("S2 none of them begins", () -> room.bake(refused, 0));
        }
    }

    private static void s3OrderAndTickets() {
        LoafMarket m = Use.loaded(TEN);
        check.due("S3 at most 10 customers", m.customerCount(), 10);
        check.dueText("S3 an eleventh one is refused", Use.verdict(TEN + "customer z rye 1 1 1 1;"), "5 at " + TEN.length());
        check.dueText("S3 in the order in which they came", Use.queue(m),
                "a*9r@99 bcde*1w@1 f*2o@3 g*1r@1 h*1r@1 i*1r@1 j*1r@1 k*1r@1 l*1r@1 mn*8o@98");
        for (int place = 0; place < 10; place++) {
            check.due("S3 tickets 0, 1, 2 and so on", m.ticketOf(place), place);
        }
        m.sendAway(9);
        m.sendAway(0);
        check.due("S3 the ticket of one who left is not used again", Use.join(m, "z", 0, 1, 1, 1, 9), 10);
        check.due("S3 nor is the next one", Use.join(m, "a", 0, 1, 1, 1, 9), 11);
        check.dueText("S3 new ones come last", Use.queue(m),
                "bcde*1w@1 f*2o@3 g*1r@1 h*1r@1 i*1r@1 j*1r@1 k*1r@1 l*1r@1 z*1r@1 a*1r@1");
    }

    private static void s3Names() {
        String[] taken = {"ann", "bob", "cid", "dot", "eli"};
        for (String name : taken) {
            LoafMarket m = new LoafMarket();
            check.dueState("S3 the name " + name + " is taken", () -> Use.join(m, name, 0, 1, 1, 1, 1));
            check.due("S3 and its part is not", Use.join(m, name.substring(0, 2), 0, 1, 1, 1, 1), 3);
            check.due("S3 nor what is longer by a letter", Use.join(m, name + "a", 0, 1, 1, 1, 1), 4);
        }
        check.dueText("S3 two bakers", Use.verdict(M + "baker a 1 1;baker a 1 1;"), "3 at 33");
        check.dueText("S3 a baker and a customer", Use.verdict(M + "baker a 1 1;customer a rye 1 1 1 1;"), "3 at 36");
        check.dueText("S3 a customer and a baker", Use.verdict(M + "customer a rye 1 1 1 1;baker a 1 1;"), "3 at 44");
        check.dueText("S3 two customers", Use.verdict(M + "customer a rye 1 1 1 1;customer a rye 1 1 1 1;"), "3 at 47");
    }

    /** Each row: base price, age, the price that is due. */
    private static void s1Rye() {
        reserves("rye", 0, new int[][] {{9, 23, 9}, {9, 24, 9}, {9, 25, 7}, {9, 28, 1}, {9, 29, 0}, {9, 30, 0}, {10, 28, 2}, {10, 29, 0},
            {1, 24, 1}, {1, 25, 0}, {2, 25, 0}, {3, 25, 1}, {3, 26, 0}, {99, 24, 99}, {99, 25, 97}, {99, 73, 1}, {99, 74, 0}, {98, 72, 2}, {98, 73, 0}});
    }

    private static void s1Wheat() {
        reserves("wheat", 1, new int[][] {{10, 1, 10}, {10, 2, 9}, {10, 3, 9}, {10, 19, 1}, {10, 20, 0}, {10, 21, 0}, {10, 23, 0}, {20, 21, 0}, {20, 22, 0}, {1, 40, 0}, {1, 19, 1}, {1, 20, 0},
            {19, 1, 19}, {20, 1, 19}, {21, 1, 20}, {40, 1, 38}, {99, 1, 95}, {99, 19, 5}, {99, 20, 0}, {99, 21, 0}, {99, 999, 0}, {3, 6, 3}, {3, 7, 2}, {3, 13, 2}, {3, 14, 1}});
    }

    private static void s1Roll() {
        reserves("roll", 2, new int[][] {{99, 3, 99}, {99, 4, 49}, {99, 7, 49}, {99, 8, 24}, {99, 11, 24}, {99, 12, 12}, {99, 16, 6}, {99, 20, 3},
            {99, 23, 3}, {99, 24, 1}, {99, 27, 1}, {99, 28, 0}, {1, 3, 1}, {1, 4, 0}, {2, 7, 1}, {2, 8, 0}, {3, 4, 1}, {64, 27, 1}, {63, 23, 1}, {63, 24, 0},
            {99, 124, 0}, {99, 127, 0}, {99, 128, 0}, {99, 131, 0}, {99, 132, 0}, {99, 256, 0}});
    }

    private static void reserves(String name, int kind, int[][] due) {
        for (int[] d : due) {
            LoafMarket m = Use.loaded(M);
            m.setBasePrice(kind, d[0]);
            check.due("S1 " + name + " at " + d[0] + ", age " + d[1], m.reserveAt(kind, d[1]), d[2]);
        }
    }
}
