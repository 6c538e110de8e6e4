/** Promises 1, 7 to 33 and 51: what a market answers about itself, its bakers, customers and loaves. */
public final class QuestionTest {
    private static final Check check = new Check("QuestionTest");
    private static final int MIN = Integer.MIN_VALUE;
    private static final int MAX = Integer.MAX_VALUE;

    public static void main(String[] args) {
        newObject();
        bakers();
        refusal();
        customers();
        tickets();
        loaves();
        prices();
        stale();
        meanAge();
        check.end();
    }

    private static void newObject() {
        LoafMarket m = new LoafMarket();
        check.dueText("the new market", Use.state(m), "3 1 2 base 20 10 8"
                + " | ann 4 -1 0 0 | bob 3 -1 0 0"
                + " | cid 0 2 2 6 50 8 | dot 1 0 3 25 60 4 | eli 2 2 2 4 9 2"
                + " | 2:1:2 2:1:2 2:1:2 0:0:1 0:0:1 0:0:1 0:0:1 1:1:0 1:1:0 1:1:0"
                + " | 0:1:3 0:0:4 0:1:3 | 0.0 0 0");
        check.due("hour", m.hour(), 3);
        check.due("bakerCount", m.bakerCount(), 2);
        check.due("customerCount", m.customerCount(), 3);
        check.due("loafCount", m.loafCount(), 10);
        check.due("crumbs", m.crumbs(), 1);
        check.due("sparrows", m.sparrows(), 2);
        check.due("errorCode", m.errorCode(), 0);
        check.due("errorPosition", m.errorPosition(), -1);
        check.due("undoDepth", m.undoDepth(), 0);
        check.dueArgument("the input is empty", () -> m.truncateInput(1));
        check.dueElement("the output is empty", () -> m.outputByte(0));
        check.dueState("slot 0 is empty", () -> m.restore(0));
        check.dueState("slot 1 is empty", () -> m.restore(1));
        check.dueState("nothing to undo", m::undo);
        LoafMarket other = new LoafMarket();
        other.passHours(60);
        check.due("another object stands alone", m.hour(), 3);
    }

    private static void bakers() {
        LoafMarket m = Use.loaded("market 9 9 9;baker a 12 9;baker bcde 1 1;baker fg 5 3;bake a roll;bake fg wheat;hours 1;");
        check.due("bakerCount", m.bakerCount(), 3);
        check.dueText("name 0", Use.bakerName(m, 0), "a");
        check.dueText("name 1", Use.bakerName(m, 1), "bcde");
        check.dueText("name 2", Use.bakerName(m, 2), "fg");
        check.due("ovenSize(0)", m.ovenSize(0), 12);
        check.due("ovenSize(1)", m.ovenSize(1), 1);
        check.due("bakingKind(0)", m.bakingKind(0), 2);
        check.due("bakingKind(1)", m.bakingKind(1), -1);
        check.due("bakingKind(2)", m.bakingKind(2), 1);
        check.due("hoursLeft(0)", m.hoursLeft(0), 8);
        check.due("hoursLeft(1)", m.hoursLeft(1), 0);
        check.due("hoursLeft(2)", m.hoursLeft(2), 2);
        check.due("income(0)", m.income(0), 0);
        for (int wrong : new int[] {-1, 3, 4, MIN, MAX}) {
            check.dueIndex("bakerNameByte " + wrong, () -> m.bakerNameByte(wrong, 0));
            check.dueIndex("bakerNameByte twice wrong " + wrong, () -> m.bakerNameByte(wrong, -1));
            check.dueIndex("ovenSize " + wrong, () -> m.ovenSize(wrong));
            check.dueIndex("bakingKind " + wrong, () -> m.bakingKind(wrong));
            check.dueIndex("hoursLeft " + wrong, () -> m.hoursLeft(wrong));
            check.dueIndex("income " + wrong, () -> m.income(wrong));
            check.dueIndex("bakeRefusal " + wrong, () -> m.bakeRefusal(wrong, 0));
            check.dueIndex("bakeRefusal kind " + wrong, () -> m.bakeRefusal(1, wrong));
        }
        for (int wrong : new int[] {-1, 1, 4, MIN, MAX}) {
            check.dueElement("bakerNameByte(0, " + wrong + ")", () -> m.bakerNameByte(0, wrong));
        }
        check.dueElement("bakerNameByte(1, 4)", () -> m.bakerNameByte(1, 4));
        check.due("bakerNameByte(1, 3)", m.bakerNameByte(1, 3), 'e');
        LoafMarket none = Use.loaded("market 1 1 1;");
        check.dueIndex("ovenSize of no baker", () -> none.ovenSize(0));
    }

    private static void refusal() {
        LoafMarket m = Use.loaded("market 99 99 99;baker a 12 1;baker b 12 1;baker c 12 1;baker d 12 9;bake a rye;bake b rye;bake c rye;hours 1;bake a rye;");
        check.due("48 of 60, one of 12 to come: b", m.bakeRefusal(1, 0), 0);
        check.due("a bakes", m.bakeRefusal(0, 2), 1);
        m.bake(1, 1);
        check.due("60 of 60: c", m.bakeRefusal(2, 1), 2);
        check.due("a bakes, and there is no room either", m.bakeRefusal(0, 1), 1);
        m.passHours(1);
        check.due("60 in stock", m.loafCount(), 60);
        check.due("60 in stock: d", m.bakeRefusal(3, 0), 2);
        LoafMarket small = Use.loaded("market 99 99 99;baker a 12 1;baker b 11 1;baker c 2 1;bake a rye;bake b rye;hours 1;bake a rye;bake b rye;hours 1;bake a rye;");
        check.due("46 in stock and 12 in an oven, two more", small.bakeRefusal(2, 0), 0);
        small.bake(2, 0);
        small.passHours(1);
        check.due("60 loaves", small.loafCount(), 60);
        LoafMarket odd = Use.loaded("market 99 99 99;baker a 12 1;baker b 11 1;baker c 3 1;bake a rye;bake b rye;hours 1;bake a rye;bake b rye;hours 1;bake a rye;");
        check.due("46 in stock and 12 in an oven, three more", odd.bakeRefusal(2, 0), 2);
    }

    private static void customers() {
        LoafMarket m = Use.loaded("market 9 9 9;customer x rye 9 99 999 99;customer yyyy wheat 1 1 0 1;customer zz roll 3 4 5 6;");
        check.due("customerCount", m.customerCount(), 3);
        check.dueText("name 0", Use.customerName(m, 0), "x");
        check.dueText("name 1", Use.customerName(m, 1), "yyyy");
        check.dueText("name 2", Use.customerName(m, 2), "zz");
        int[][] due = {{0, 0, 9, 99, 999, 99}, {1, 1, 1, 1, 0, 1}, {2, 2, 3, 4, 5, 6}};
        for (int i = 0; i < 3; i++) {
            check.due("ticketOf " + i, m.ticketOf(i), due[i][0]);
            check.due("kindWanted " + i, m.kindWanted(i), due[i][1]);
            check.due("wanted " + i, m.wanted(i), due[i][2]);
            check.due("limitPrice " + i, m.limitPrice(i), due[i][3]);
            check.due("purse " + i, m.purse(i), due[i][4]);
            check.due("patience " + i, m.patience(i), due[i][5]);
        }
        for (int wrong : new int[] {-1, 3, 10, MIN, MAX}) {
            check.dueIndex("customerNameByte " + wrong, () -> m.customerNameByte(wrong, 0));
            check.dueIndex("customerNameByte twice wrong " + wrong, () -> m.customerNameByte(wrong, 9));
            check.dueIndex("ticketOf " + wrong, () -> m.ticketOf(wrong));
            check.dueIndex("kindWanted " + wrong, () -> m.kindWanted(wrong));
            check.dueIndex("wanted " + wrong, () -> m.wanted(wrong));
            check.dueIndex("limitPrice " + wrong, () -> m.limitPrice(wrong));
            check.dueIndex("purse " + wrong, () -> m.purse(wrong));
            check.dueIndex("patience " + wrong, () -> m.patience(wrong));
        }
        for (int wrong : new int[] {-1, 2, 4, MIN, MAX}) {
            check.dueElement("customerNameByte(2, " + wrong + ")", () -> m.customerNameByte(2, wrong));
        }
    }

    private static void tickets() {
        LoafMarket m = new LoafMarket();
        check.due("customerWithTicket(0)", m.customerWithTicket(0), 0);
        check.due("customerWithTicket(2)", m.customerWithTicket(2), 2);
        check.due("customerWithTicket(3)", m.customerWithTicket(3), -1);
        check.due("customerWithTicket(-1)", m.customerWithTicket(-1), -1);
        check.due("customerWithTicket(MIN)", m.customerWithTicket(MIN), -1);
        check.due("customerWithTicket(MAX)", m.customerWithTicket(MAX), -1);
        m.sendAway(0);
        check.due("the ticket that left", m.customerWithTicket(0), -1);
        check.due("the second ticket moved up", m.customerWithTicket(1), 0);
        check.due("the third ticket moved up", m.customerWithTicket(2), 1);
        m.sendAway(1);
        check.due("the last ticket left", m.customerWithTicket(2), -1);
        check.due("a ticket is never used again", Use.join(m, "eli", 0, 1, 1, 1, 1), 3);
        check.due("customerWithTicket(3)", m.customerWithTicket(3), 1);
    }

    private static void loaves() {
        LoafMarket m = new LoafMarket();
        int[] kinds = {2, 2, 2, 0, 0, 0, 0, 1, 1, 1};
        int[] ages = {2, 2, 2, 1, 1, 1, 1, 0, 0, 0};
        int[] reserves = {8, 8, 8, 20, 20, 20, 20, 10, 10, 10};
        for (int i = 0; i < 10; i++) {
            check.due("loafKind " + i, m.loafKind(i), kinds[i]);
            check.due("loafBaker " + i, m.loafBaker(i), kinds[i] == 0 ? 0 : 1);
            check.due("loafAge " + i, m.loafAge(i), ages[i]);
            check.due("reservePrice " + i, m.reservePrice(i), reserves[i]);
        }
        for (int wrong : new int[] {-1, 10, 60, MIN, MAX}) {
            check.dueIndex("loafKind " + wrong, () -> m.loafKind(wrong));
            check.dueIndex("loafBaker " + wrong, () -> m.loafBaker(wrong));
            check.dueIndex("loafAge " + wrong, () -> m.loafAge(wrong));
            check.dueIndex("reservePrice " + wrong, () -> m.reservePrice(wrong));
            check.dueIndex("hoursUntilStale " + wrong, () -> m.hoursUntilStale(wrong));
        }
        m.passHours(2);
        check.due("a roll of 4 hours", m.reservePrice(0), 4);
        check.due("a rye loaf of 3 hours", m.reservePrice(3), 20);
        check.due("a wheat loaf of 2 hours", m.reservePrice(7), 9);
        m.setBasePrice(2, 99);
        check.due("a roll of 4 hours at 99", m.reservePrice(0), 49);
    }

    private static void prices() {
        LoafMarket m = new LoafMarket();
        check.due("basePrice(0)", m.basePrice(0), 20);
        check.due("basePrice(1)", m.basePrice(1), 10);
        check.due("basePrice(2)", m.basePrice(2), 8);
        for (int wrong : new int[] {-1, 3, MIN, MAX}) {
            check.dueIndex("basePrice " + wrong, () -> m.basePrice(wrong));
            check.dueIndex("reserveAt " + wrong, () -> m.reserveAt(wrong, 0));
            check.dueIndex("reserveAt twice wrong " + wrong, () -> m.reserveAt(wrong, -1));
        }
        for (int wrong : new int[] {-1, 1000, MIN, MAX}) {
            check.dueArgument("reserveAt(1, " + wrong + ")", () -> m.reserveAt(1, wrong));
        }
        for (int base = 1; base <= 99; base += base < 10 ? 1 : 89) {
            LoafMarket each = Use.loaded("market " + base + " " + base + " " + base + ";");
            for (int age = 0; age <= 90; age++) {
                prices(each, base, age);
            }
            prices(each, base, 127);
            prices(each, base, 128);
            prices(each, base, 132);
            prices(each, base, 999);
        }
    }

    private static void prices(LoafMarket m, int base, int age) {
        int rye = base;
        for (int i = 25; i <= age && rye > 0; i++) {
            rye = Math.max(0, rye - 2);
        }
        int roll = base;
        for (int i = 4; i <= age; i += 4) {
            roll = roll / 2;
        }
        int wheat = Math.max(0, base - (int) Math.floor(base * (double) age / 20));
        check.due("rye of " + age + " at " + base, m.reserveAt(0, age), rye);
        check.due("wheat of " + age + " at " + base, m.reserveAt(1, age), wheat);
        check.due("roll of " + age + " at " + base, m.reserveAt(2, age), roll);
    }

    private static void stale() {
        LoafMarket m = new LoafMarket();
        check.due("the first roll", m.hoursUntilStale(0), 14);
        check.due("the first rye loaf", m.hoursUntilStale(3), 33);
        check.due("the first wheat loaf", m.hoursUntilStale(7), 20);
        m.passHours(3);
        check.due("the first roll later", m.hoursUntilStale(0), 11);
        m.setBasePrice(2, 1);
        check.due("a roll of 5 hours at 1", m.reservePrice(0), 0);
        check.due("stale now", m.hoursUntilStale(0), 0);
        check.due("it is in the stock yet", m.loafCount(), 10);
        check.due("wasted with the next hour", m.passHours(1), 3);
        LoafMarket rye = Use.loaded("market 99 1 99;baker a 1 1;bake a rye;hours 1;bake a wheat;hours 1;bake a roll;hours 1;");
        check.due("rye at 99", rye.hoursUntilStale(0), 72);
        check.due("wheat at 1", rye.hoursUntilStale(1), 19);
        check.due("roll at 99", rye.hoursUntilStale(2), 28);
        rye.passHours(18);
        check.due("wheat at 1, before its last hour", rye.hoursUntilStale(1), 1);
        check.due("nothing wasted", rye.loafCount(), 3);
        check.due("the wheat loaf wasted", rye.passHours(1), 1);
        check.dueText("the stock", Use.stock(rye), "0:0:21 2:0:19");
        check.due("rye of 21 hours at 99", rye.hoursUntilStale(0), 53);
    }

    private static void meanAge() {
        LoafMarket m = new LoafMarket();
        check.dueD("meanAge", m.meanAge(), 1.0);
        m.bake(0, 1);
        m.passHours(2);
        check.dueD("meanAge of 14", m.meanAge(), 30.0 / 14.0);
        check.dueD("meanAge of none", Use.loaded("market 1 1 1;baker a 3 2;bake a rye;hours 1;").meanAge(), 0.0);
        check.dueD("meanAge of one", Use.loaded("market 9 9 9;baker a 1 1;bake a rye;hours 8;").meanAge(), 7.0);
        LoafMarket thirds = Use.loaded("market 9 9 9;baker a 1 1;bake a rye;hours 1;bake a rye;hours 1;bake a rye;hours 1;hours 1;bake a rye;hours 1;bake a rye;hours 1;bake a rye;hours 1;");
        check.dueD("meanAge of 6", thirds.meanAge(), 18.0 / 6.0);
        thirds.bake(0, 0);
        thirds.passHours(1);
        check.dueD("meanAge of 7", thirds.meanAge(), 24.0 / 7.0);
    }
}
