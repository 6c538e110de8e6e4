import java.nio.charset.StandardCharsets;
import java.util.ArrayDeque;
import java.util.Deque;

/** Long runs of calls on LoafMarket and on Model, whose answers must be the same; each object gets at most 512 calls. */
public final class ModelTest {
    private static final int RUNS = 3000;
    private static final int CALLS = 512;
    private static final String[] NAMES = {"ann", "bob", "cid", "dot", "eli", "a", "bb", "zzzz", "rye", "bake", "x", "y", "z", "w"};
    private static final String[] KINDS = {"rye", "wheat", "roll"};
    private static final String[] PIECES = {"market", "baker", "bake", "customer", "auction", "sparrows", "hours", "rye", "wheat", "roll", ";", "ann", "x",
        "abcde", "bb", "0", "1", "9", "10", "12", "13", "60", "61", "99", "100", "999", "1000", "00001", "99999999999", "+", "\n", " ", "A", "\u00ff", "\0"};
    private static final String FIRST = "market 20 10 8;baker ann 4 2;baker bob 3 1;bake ann rye;bake bob roll;hours 2;bake bob wheat;"
            + "customer cid roll 2 6 50 9;customer dot rye 3 25 60 5;customer eli roll 2 4 9 3;sparrows 2 7;hours 1;";

    private static final Check check = new Check("ModelTest");
    private static final int[] errorsSeen = new int[7];

    private long seed;
    private int calls;
    private String trail = "";
    private LoafMarket m;
    private Model model;
    private byte[] input = new byte[0];
    private String output = "";
    private int error;
    private int errorPosition = -1;
    private final Model[] slots = new Model[2];
    private final Deque<Model> past = new ArrayDeque<>();

    public static void main(String[] args) {
        for (int run = 1; run <= RUNS; run++) {
            new ModelTest(run).run();
        }
        for (int code = 0; code <= 6; code++) {
            check.dueTrue("error code " + code + " was seen: " + errorsSeen[code], errorsSeen[code] > 20);
        }
        check.end();
    }

    private ModelTest(long number) {
        seed = number * 0x9E3779B97F4A7C15L;
    }

    private void run() {
        m = new LoafMarket();
        model = new Model.Reader(FIRST).read();
        if (next(3) > 0) {
            feed(mended(text()));
            load();
        }
        while (calls < CALLS - 150) {
            if (next(3) == 0) {
                change();
            } else {
                question();
            }
        }
        // the undo chain to its end
        for (int i = 0; i < 9; i++) {
            undo();
            question();
        }
        check.dueTrue("at most 512 calls, not " + calls, calls <= CALLS);
    }

    private int next(int bound) {
        seed = seed * 6364136223846793005L + 1442695040888963407L;
        return (int) Math.floorMod(seed >>> 33, (long) bound);
    }

    private int near(int least, int most) {
        switch (next(40)) {
            case 0:
                return least - 1;
            case 1:
                return most + 1;
            case 2:
                return next(2) == 0 ? Integer.MIN_VALUE : Integer.MAX_VALUE;
            case 3:
                return least;
            case 4:
                return most;
            default:
                return most < least ? least : least + next(most - least + 1);
        }
    }

    // ---- texts ----

    private String text() {
        StringBuilder text = new StringBuilder("market " + (1 + next(99)) + " " + (1 + next(40)) + " " + (1 + next(30)) + ";");
        int statements = next(26);
        for (int i = 0; i < statements && text.length() < 520; i++) {
            text.append(statement(i));
        }
        return text.toString();
    }

    private String statement(int number) {
        int choice = number < 3 ? 0 : next(12);
        // The few names of bakers make it likely that bake finds one.
        String name = NAMES[next(choice < 4 ? 5 : NAMES.length)];
        switch (choice) {
            case 0:
                return "baker " + name + " " + (1 + next(12)) + " " + (1 + next(4)) + ";";
            case 1: case 2: case 3:
                return "bake " + name + " " + KINDS[next(3)] + ";";
            case 4: case 5: case 6: case 7:
                return "customer " + name + " " + KINDS[next(3)] + " " + (1 + next(9)) + " " + (1 + next(40)) + "\n" + next(300) + " " + (1 + next(20)) + " ;";
            case 8:
                return "auction " + KINDS[next(3)] + ";";
            case 9:
                return "sparrows " + next(10) + " " + next(120) + ";";
            default:
                return "hours " + next(9) + ";";
        }
    }

    private String spoilt(String text) {
        int at = next(text.length() + 1);
        String piece = PIECES[next(PIECES.length)];
        switch (next(4)) {
            case 0:
                return text.substring(0, at);
            case 1:
                return text.substring(0, at) + piece + text.substring(at);
            case 2:
                return text.substring(0, at) + " " + piece + " " + text.substring(at);
            default:
                int end = Math.min(text.length(), at + 1 + next(5));
                return text.substring(0, at) + piece + text.substring(end);
        }
    }

    /** Leaves out the statements that have errors, so that longer texts are read to their ends. */
    private String mended(String text) {
        for (int i = 0; i < 60; i++) {
            try {
                new Model.Reader(text).read();
                return text;
            } catch (Model.Fault e) {
                int start = text.lastIndexOf(';', Math.max(0, e.position - 1)) + 1;
                int end = text.indexOf(';', e.position);
                text = end < 0 ? text.substring(0, start) : text.substring(0, start) + text.substring(end + 1);
            }
        }
        return "market 1 2 3;";
    }

    private String anyText() {
        switch (next(6)) {
            case 0:
                return text();
            case 1:
                return mended(text()) + statement(3) + statement(4) + statement(5);
            case 2: case 3:
                return spoilt(mended(text()));
            default:
                return mended(text());
        }
    }

    private void feed(String text) {
        byte[] bytes = text.getBytes(StandardCharsets.ISO_8859_1);
        if (bytes.length > 600) {
            return;
        }
        Use.feed(m, text);
        calls += 2 + (bytes.length + 19) / 20;
        input = bytes;
        trail = "feed";
    }

    // ---- changes ----

    private void change() {
        switch (next(24)) {
            case 0:
                feed(anyText());
                load();
                break;
            case 1: case 2: case 3: case 4: case 5: case 6:
                join();
                break;
            case 7: case 8: case 9: case 10:
                bake(near(0, model.bakers.size() - 1), near(0, 2));
                break;
            case 11: case 12: case 13:
                auction(near(0, 2));
                break;
            case 14:
                sendAway(near(0, model.queue.size() - 1));
                break;
            case 15:
                setBasePrice(near(0, 2), near(1, 99));
                break;
            case 16:
                scatter(near(1, 99));
                break;
            case 17: case 18: case 19:
                passHours(next(4) == 0 ? near(1, 60) : 1 + next(4));
                break;
            case 20:
                save(near(0, 1));
                break;
            case 21:
                restore(near(0, 1));
                break;
            case 22:
                for (int i = next(3); i >= 0; i--) {
                    undo();
                }
                break;
            default:
                buffer();
                break;
        }
    }

    private void load() {
        Model read = null;
        error = 0;
        errorPosition = -1;
        try {
            read = new Model.Reader(new String(input, StandardCharsets.ISO_8859_1)).read();
        } catch (Model.Fault e) {
            error = e.code;
            errorPosition = e.position;
        }
        errorsSeen[error]++;
        input = new byte[0];
        if (read == null) {
            same("load", 'A', 0, m::load);
            same("errorCode", ' ', error, m::errorCode);
            same("errorPosition", ' ', errorPosition, m::errorPosition);
        } else {
            same("load", ' ', read.queue.size(), m::load);
            remember();
            model = read;
        }
    }

    private void join() {
        String name = next(12) == 0 ? "ab1" : next(12) == 0 ? "abcde" : NAMES[next(NAMES.length)];
        if (next(15) > 0) {
            feed(name);
        }
        int kind = near(0, 2);
        int wanted = near(1, 9);
        int limit = next(3) == 0 ? near(1, 99) : 1 + next(30);
        int purse = near(0, 999);
        int patience = near(1, 99);
        String text = new String(input, StandardCharsets.ISO_8859_1);
        char fault = ' ';
        if (kind < 0 || kind > 2) {
            fault = 'I';
        } else if (out(wanted, 1, 9) || out(limit, 1, 99) || out(purse, 0, 999) || out(patience, 1, 99) || !text.matches("[a-z]{1,4}\\z")) {
            fault = 'A';
        } else if (model.queue.size() == 10 || model.named(text)) {
            fault = 'S';
        }
        same("joinQueue", fault, model.tickets, () -> m.joinQueue(kind, wanted, limit, purse, patience));
        if (fault == ' ') {
            remember();
            model.join(text, kind, wanted, limit, purse, patience);
            input = new byte[0];
        }
    }

    private void bake(int baker, int kind) {
        char fault = out(baker, 0, model.bakers.size() - 1) || out(kind, 0, 2) ? 'I' : model.refusal(baker) != 0 ? 'S' : ' ';
        same("bake", fault, fault == ' ' ? model.bakers.get(baker).oven : 0, () -> m.bake(baker, kind));
        if (fault == ' ') {
            remember();
            model.begin(baker, kind);
        }
    }

    private void auction(int kind) {
        char fault = out(kind, 0, 2) ? 'I' : ' ';
        int trades = 0;
        if (fault == ' ') {
            remember();
            trades = model.auction(kind);
        }
        same("auction", fault, trades, () -> m.auction(kind));
    }

    private void sendAway(int customer) {
        char fault = out(customer, 0, model.queue.size() - 1) ? 'I' : ' ';
        same("sendAway", fault, fault == ' ' ? model.queue.get(customer).purse : 0, () -> m.sendAway(customer));
        if (fault == ' ') {
            remember();
            model.away(model.queue.get(customer), 2);
        }
    }

    private void setBasePrice(int kind, int price) {
        char fault = out(kind, 0, 2) ? 'I' : out(price, 1, 99) ? 'A' : ' ';
        same("setBasePrice", fault, fault == ' ' ? model.base[kind] : 0, () -> m.setBasePrice(kind, price));
        if (fault == ' ') {
            remember();
            model.base[kind] = price;
        }
    }

    private void scatter(int number) {
        char fault = out(number, 1, 99) ? 'A' : ' ';
        if (fault == ' ') {
            remember();
            model.crumbs += number;
        }
        same("scatter", fault, model.crumbs, () -> m.scatter(number));
    }

    private void passHours(int hours) {
        char fault = out(hours, 1, 60) ? 'A' : ' ';
        int wasted = 0;
        if (fault == ' ') {
            remember();
            for (int i = 0; i < hours; i++) {
                wasted += model.pass();
            }
        }
        same("passHours", fault, wasted, () -> m.passHours(hours));
    }

    private void save(int slot) {
        char fault = out(slot, 0, 1) ? 'I' : ' ';
        same("save", fault, model.hour, () -> m.save(slot));
        if (fault == ' ') {
            slots[slot] = model.copy();
        }
    }

    private void restore(int slot) {
        char fault = out(slot, 0, 1) ? 'I' : slots[slot] == null ? 'S' : ' ';
        same("restore", fault, fault == ' ' ? slots[slot].hour : 0, () -> m.restore(slot));
        if (fault == ' ') {
            remember();
            model = slots[slot].copy();
        }
    }

    private void undo() {
        char fault = past.isEmpty() ? 'S' : ' ';
        same("undo", fault, past.size() - 1, m::undo);
        if (fault == ' ') {
            model = past.removeLast();
        }
    }

    private void buffer() {
        if (next(2) == 0) {
            int length = near(0, input.length);
            boolean wrong = out(length, 0, input.length);
            same("truncateInput", wrong ? 'A' : ' ', length, () -> m.truncateInput(length));
            input = wrong ? input : java.util.Arrays.copyOf(input, length);
        } else {
            int word = 0x61626300 + next(64);
            boolean wrong = input.length > 580;
            same("appendInput", wrong ? 'S' : ' ', input.length + 20, () -> m.appendInput(word, -word, 1, word << 3, 0x7a7a7a7a));
            if (!wrong) {
                input = java.nio.ByteBuffer.allocate(input.length + 20).put(input).putInt(word).putInt(-word).putInt(1).putInt(word << 3).putInt(0x7a7a7a7a).array();
            }
        }
    }

    private void remember() {
        past.addLast(model.copy());
        if (past.size() > 8) {
            past.removeFirst();
        }
    }

    // ---- questions ----

    private void question() {
        int kind = near(0, 2);
        switch (next(12)) {
            case 0:
                same("hour", ' ', model.hour, m::hour);
                same("bakerCount", ' ', model.bakers.size(), m::bakerCount);
                same("customerCount", ' ', model.queue.size(), m::customerCount);
                same("loafCount", ' ', model.stock.size(), m::loafCount);
                same("crumbs", ' ', model.crumbs, m::crumbs);
                same("sparrows", ' ', model.sparrows, m::sparrows);
                break;
            case 1:
                askBaker(near(0, model.bakers.size() - 1), kind);
                break;
            case 2:
                askCustomer(near(0, model.queue.size() - 1));
                break;
            case 3:
                askLoaf(near(0, model.stock.size() - 1));
                break;
            case 4:
                askPrices(kind, next(2) == 0 ? near(0, 999) : next(80));
                break;
            case 5: case 6:
                askAuction(kind);
                break;
            case 7:
                askEvent(near(0, model.events.size() - 1));
                break;
            case 8:
                askFuture(kind, next(3) == 0 ? near(0, 100) : next(30));
                break;
            case 9:
                askOutput();
                break;
            case 10:
                same("undoDepth", ' ', past.size(), m::undoDepth);
                same("errorCode", ' ', error, m::errorCode);
                same("errorPosition", ' ', errorPosition, m::errorPosition);
                same("moneyDifference", ' ', 0, m::moneyDifference);
                same("loafDifference", ' ', 0, m::loafDifference);
                break;
            default:
                askShares();
                break;
        }
    }

    private void askBaker(int baker, int kind) {
        boolean wrong = out(baker, 0, model.bakers.size() - 1);
        char fault = wrong ? 'I' : ' ';
        Model.Baker b = wrong ? new Model.Baker() : model.bakers.get(baker);
        int position = near(0, 3);
        boolean beyond = !wrong && out(position, 0, b.name.length() - 1);
        same("bakerNameByte", beyond ? 'E' : fault, wrong || beyond ? 0 : b.name.charAt(position), () -> m.bakerNameByte(baker, position));
        same("ovenSize", fault, b.oven, () -> m.ovenSize(baker));
        same("bakingKind", fault, b.kind, () -> m.bakingKind(baker));
        same("hoursLeft", fault, b.left, () -> m.hoursLeft(baker));
        same("income", fault, b.income, () -> m.income(baker));
        boolean either = wrong || out(kind, 0, 2);
        same("bakeRefusal", either ? 'I' : ' ', either ? 0 : model.refusal(baker), () -> m.bakeRefusal(baker, kind));
    }

    private void askCustomer(int customer) {
        boolean wrong = out(customer, 0, model.queue.size() - 1);
        char fault = wrong ? 'I' : ' ';
        Model.Customer c = wrong ? new Model.Customer() : model.queue.get(customer);
        int position = near(0, 3);
        boolean beyond = !wrong && out(position, 0, c.name.length() - 1);
        same("customerNameByte", beyond ? 'E' : fault, wrong || beyond ? 0 : c.name.charAt(position), () -> m.customerNameByte(customer, position));
        same("ticketOf", fault, c.ticket, () -> m.ticketOf(customer));
        same("kindWanted", fault, c.kind, () -> m.kindWanted(customer));
        same("wanted", fault, c.wanted, () -> m.wanted(customer));
        same("limitPrice", fault, c.limit, () -> m.limitPrice(customer));
        same("purse", fault, c.purse, () -> m.purse(customer));
        same("patience", fault, c.patience, () -> m.patience(customer));
        int ticket = near(0, model.tickets);
        int place = -1;
        for (int i = 0; i < model.queue.size(); i++) {
            place = model.queue.get(i).ticket == ticket ? i : place;
        }
        same("customerWithTicket", ' ', place, () -> m.customerWithTicket(ticket));
    }

    private void askLoaf(int loaf) {
        boolean wrong = out(loaf, 0, model.stock.size() - 1);
        char fault = wrong ? 'I' : ' ';
        Model.Loaf l = wrong ? new Model.Loaf(0, 0, 0) : model.stock.get(loaf);
        same("loafKind", fault, l.kind(), () -> m.loafKind(loaf));
        same("loafBaker", fault, l.baker(), () -> m.loafBaker(loaf));
        same("loafAge", fault, model.hour - l.born(), () -> m.loafAge(loaf));
        same("reservePrice", fault, wrong ? 0 : model.reserve(l), () -> m.reservePrice(loaf));
        int hours = 0;
        while (!wrong && model.reserve(l.kind(), model.hour - l.born() + hours) > 0) {
            hours++;
        }
        same("hoursUntilStale", fault, hours > 100 ? -1 : hours, () -> m.hoursUntilStale(loaf));
    }

    private void askPrices(int kind, int age) {
        boolean wrong = out(kind, 0, 2);
        same("basePrice", wrong ? 'I' : ' ', wrong ? 0 : model.base[kind], () -> m.basePrice(kind));
        char fault = wrong ? 'I' : out(age, 0, 999) ? 'A' : ' ';
        same("reserveAt", fault, fault == ' ' ? model.reserve(kind, age) : 0, () -> m.reserveAt(kind, age));
    }

    private void askAuction(int kind) {
        boolean wrong = out(kind, 0, 2);
        char fault = wrong ? 'I' : ' ';
        Model.Plan plan = wrong ? new Model.Plan() : model.plan(kind);
        same("bidCount", fault, plan.bids, () -> m.bidCount(kind));
        same("tradeCount", fault, plan.trades.size(), () -> m.tradeCount(kind));
        same("clearingPrice", fault, plan.price, () -> m.clearingPrice(kind));
        same("reasonNoTrades", fault, plan.reason, () -> m.reasonNoTrades(kind));
        same("gain", fault, plan.trades.stream().mapToInt(t -> t.bid() - t.asked()).sum(), () -> m.gain(kind));
        int trade = near(0, plan.trades.size() - 1);
        boolean beyond = !wrong && out(trade, 0, plan.trades.size() - 1);
        boolean neither = wrong || beyond;
        same("buyerOf", beyond ? 'E' : fault, neither ? 0 : model.queue.indexOf(plan.trades.get(trade).buyer()), () -> m.buyerOf(kind, trade));
        same("loafOf", beyond ? 'E' : fault, neither ? 0 : plan.places.get(trade), () -> m.loafOf(kind, trade));
    }

    private void askEvent(int event) {
        boolean wrong = out(event, 0, model.events.size() - 1);
        char fault = wrong ? 'I' : ' ';
        Model.Event e = wrong ? new Model.Event(0, 0, 0) : model.events.get(event);
        same("eventCount", ' ', model.events.size(), m::eventCount);
        same("eventType", fault, e.type(), () -> m.eventType(event));
        same("eventFirst", fault, e.first(), () -> m.eventFirst(event));
        same("eventSecond", fault, e.second(), () -> m.eventSecond(event));
    }

    private void askFuture(int kind, int hours) {
        boolean noKind = out(kind, 0, 2);
        boolean noHours = out(hours, 0, 100);
        Model later = noHours ? model : model.after(hours);
        same("sparrowsAfter", noHours ? 'A' : ' ', later.sparrows, () -> m.sparrowsAfter(hours));
        same("loavesAfter", noHours ? 'A' : ' ', later.stock.size(), () -> m.loavesAfter(hours));
        char fault = noKind ? 'I' : noHours ? 'A' : ' ';
        same("tradesAfter", fault, fault == ' ' ? later.plan(kind).trades.size() : 0, () -> m.tradesAfter(kind, hours));
        same("bestHour", noKind ? 'I' : ' ', noKind ? 0 : model.best(kind), () -> m.bestHour(kind));
    }

    private void askOutput() {
        if (next(2) == 0) {
            output = model.written();
            same("writeQueue", ' ', output.length(), m::writeQueue);
        }
        for (int i = 0; i < 4; i++) {
            int position = near(0, output.length() - 1);
            boolean wrong = out(position, 0, output.length() - 1);
            same("outputByte", wrong ? 'E' : ' ', wrong ? 0 : output.charAt(position), () -> m.outputByte(position));
        }
    }

    private void askShares() {
        calls += 2;
        double ages = model.stock.stream().mapToInt(l -> model.hour - l.born()).sum();
        check.dueD("run " + seed + " meanAge", m.meanAge(), model.stock.isEmpty() ? 0.0 : ages / model.stock.size());
        check.dueD("run " + seed + " soldShare", m.soldShare(), model.baked == 0 ? 0.0f : (float) model.sold / (float) model.baked);
    }

    private static boolean out(int value, int least, int most) {
        return value < least || value > most;
    }

    /** Faults: I index, A argument, S state, E element, a space for none. */
    private void same(String call, char fault, int due, Check.Call got) {
        calls++;
        String what = "call " + calls + " " + call + " after " + trail;
        switch (fault) {
            case 'I':
                check.dueIndex(what, got);
                break;
            case 'A':
                check.dueArgument(what, got);
                break;
            case 'S':
                check.dueState(what, got);
                break;
            case 'E':
                check.dueElement(what, got);
                break;
            default:
                check.due(what, answer(got), due);
                break;
        }
        trail = call;
    }

    private static long answer(Check.Call call) {
        try {
            return call.run();
        } catch (RuntimeException e) {
            return Long.MIN_VALUE;
        }
    }
}
