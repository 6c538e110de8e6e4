import java.util.ArrayList;
import java.util.Collections;
import java.util.Comparator;
import java.util.List;
import java.util.regex.Matcher;
import java.util.regex.Pattern;
import java.util.stream.Collectors;

/** The document written a second time, with lists of whole objects, to be held against LoafMarket. */
final class Model {
    static final class Baker {
        String name;
        int oven;
        int time;
        int kind = -1;
        int left;
        int income;

        Baker copy() {
            Baker b = new Baker();
            b.name = name;
            b.oven = oven;
            b.time = time;
            b.kind = kind;
            b.left = left;
            b.income = income;
            return b;
        }
    }

    static final class Customer {
        String name;
        int ticket;
        int kind;
        int wanted;
        int limit;
        int purse;
        int patience;

        Customer copy() {
            Customer c = new Customer();
            c.name = name;
            c.ticket = ticket;
            c.kind = kind;
            c.wanted = wanted;
            c.limit = limit;
            c.purse = purse;
            c.patience = patience;
            return c;
        }
    }

    record Loaf(int kind, int baker, int born) { }

    record Event(int type, int first, int second) { }

    record Trade(Customer buyer, Loaf loaf, int bid, int asked) { }

    /** What an auction would do. */
    static final class Plan {
        int bids;
        int reason;
        int price = -1;
        List<Trade> trades = new ArrayList<>();
        List<Integer> places = new ArrayList<>();

        int coins() {
            return trades.isEmpty() ? 0 : trades.size() * price;
        }
    }

    static final class Fault extends RuntimeException {
        private static final long serialVersionUID = 1;
        final int code;
        final int position;

        Fault(int code, int position) {
            this.code = code;
            this.position = position;
        }
    }

    int[] base = new int[3];
    List<Baker> bakers = new ArrayList<>();
    List<Loaf> stock = new ArrayList<>();
    List<Customer> queue = new ArrayList<>();
    List<Event> events = new ArrayList<>();
    int hour;
    int crumbs;
    int sparrows;
    int tickets;
    int baked;
    int sold;

    Model copy() {
        Model m = new Model();
        m.base = base.clone();
        bakers.forEach(b -> m.bakers.add(b.copy()));
        m.stock.addAll(stock);
        queue.forEach(c -> m.queue.add(c.copy()));
        m.events.addAll(events);
        m.hour = hour;
        m.crumbs = crumbs;
        m.sparrows = sparrows;
        m.tickets = tickets;
        m.baked = baked;
        m.sold = sold;
        return m;
    }

    int reserve(int kind, int age) {
        int price = base[kind];
        switch (kind) {
            case 0:
                return age <= 24 ? price : Math.max(0, price - 2 * (age - 24));
            case 1:
                return Math.max(0, price - Math.floorDiv(price * age, 20));
            default:
                for (int full = 4; full <= age; full += 4) {
                    price /= 2;
                }
                return price;
        }
    }

    int reserve(Loaf loaf) {
        return reserve(loaf.kind(), hour - loaf.born());
    }

    void event(int type, int first, int second) {
        events.add(new Event(type, first, second));
        if (events.size() > 30) {
            events.remove(0);
        }
    }

    int refusal(int baker) {
        if (bakers.get(baker).kind >= 0) {
            return 1;
        }
        int loaves = stock.size() + bakers.get(baker).oven;
        loaves += bakers.stream().filter(b -> b.kind >= 0).mapToInt(b -> b.oven).sum();
        return loaves > 60 ? 2 : 0;
    }

    void begin(int baker, int kind) {
        bakers.get(baker).kind = kind;
        bakers.get(baker).left = bakers.get(baker).time;
    }

    boolean named(String name) {
        return bakers.stream().anyMatch(b -> b.name.equals(name)) || queue.stream().anyMatch(c -> c.name.equals(name));
    }

    int join(String name, int kind, int wanted, int limit, int purse, int patience) {
        Customer c = new Customer();
        c.name = name;
        c.ticket = tickets++;
        c.kind = kind;
        c.wanted = wanted;
        c.limit = limit;
        c.purse = purse;
        c.patience = patience;
        queue.add(c);
        return c.ticket;
    }

    void away(Customer c, int reason) {
        queue.remove(c);
        event(3, c.ticket, reason);
    }

    Plan plan(int kind) {
        Plan plan = new Plan();
        List<Customer> bids = new ArrayList<>();
        for (Customer c : queue) {
            if (c.kind == kind) {
                bids.addAll(Collections.nCopies(Math.min(c.wanted, c.purse / c.limit), c));
            }
        }
        bids.sort(Comparator.comparingInt(c -> -c.limit));
        // Each loaf is a place in the stock, as equal loaves are equal records.
        List<Integer> loaves = new ArrayList<>();
        for (int i = 0; i < stock.size(); i++) {
            if (stock.get(i).kind() == kind) {
                loaves.add(i);
            }
        }
        loaves.sort(Comparator.comparingInt(i -> reserve(stock.get(i))));
        plan.bids = bids.size();
        int k = 0;
        for (int i = 1; i <= Math.min(bids.size(), loaves.size()); i++) {
            if (bids.get(i - 1).limit >= reserve(stock.get(loaves.get(i - 1)))) {
                k = i;
            }
        }
        if (k == 0) {
            plan.reason = loaves.isEmpty() ? 1 : bids.isEmpty() ? 2 : 3;
            return plan;
        }
        plan.price = Math.max(1, reserve(stock.get(loaves.get(k - 1))));
        if (bids.size() > k) {
            plan.price = Math.max(plan.price, bids.get(k).limit);
        }
        plan.places = loaves.subList(0, k);
        for (int i = 0; i < k; i++) {
            Loaf loaf = stock.get(loaves.get(i));
            plan.trades.add(new Trade(bids.get(i), loaf, bids.get(i).limit, reserve(loaf)));
        }
        return plan;
    }

    int auction(int kind) {
        Plan plan = plan(kind);
        if (plan.trades.isEmpty()) {
            return 0;
        }
        for (Trade trade : plan.trades) {
            trade.buyer().purse -= plan.price;
            trade.buyer().wanted--;
            bakers.get(trade.loaf().baker()).income += plan.price;
            crumbs += new int[] {1, 2, 3}[kind];
            sold++;
        }
        List<Integer> gone = new ArrayList<>(plan.places);
        gone.sort(Comparator.reverseOrder());
        for (int place : gone) {
            stock.remove(place);
        }
        event(1, kind, plan.price);
        for (Customer c : new ArrayList<>(queue)) {
            if (c.wanted == 0) {
                away(c, 0);
            }
        }
        return plan.trades.size();
    }

    /** The answer is the number of loaves wasted. */
    int pass() {
        hour++;
        for (int i = 0; i < bakers.size(); i++) {
            Baker b = bakers.get(i);
            if (b.kind >= 0 && --b.left == 0) {
                stock.addAll(Collections.nCopies(b.oven, new Loaf(b.kind, i, hour)));
                baked += b.oven;
                event(0, i, b.oven);
                b.kind = -1;
            }
        }
        List<Loaf> stale = stock.stream().filter(loaf -> reserve(loaf) == 0).collect(Collectors.toList());
        stock.removeIf(loaf -> reserve(loaf) == 0);
        stale.forEach(loaf -> event(2, loaf.kind(), loaf.baker()));
        crumbs += 5 * stale.size();
        crumbs = Math.max(0, crumbs - 3 * sparrows);
        if (crumbs > 20) {
            sparrows = Math.min(9, sparrows + 1);
        } else if (crumbs == 0) {
            sparrows = Math.max(0, sparrows - 1);
        }
        for (Customer c : new ArrayList<>(queue)) {
            if (--c.patience == 0) {
                away(c, 1);
            }
        }
        return stale.size();
    }

    Model after(int hours) {
        Model later = copy();
        for (int i = 0; i < hours; i++) {
            later.pass();
        }
        return later;
    }

    int best(int kind) {
        int best = 0;
        for (int h = 1; h <= 24; h++) {
            if (after(h).plan(kind).coins() > after(best).plan(kind).coins()) {
                best = h;
            }
        }
        return best;
    }

    String written() {
        return queue.stream().map(c -> c.name + "*" + c.wanted + "rwo".charAt(c.kind) + "@" + c.limit).collect(Collectors.joining(" "));
    }

    // ---- the text ----

    private static final Pattern TOKEN = Pattern.compile("[a-z]+|[0-9]+|[^ \n]", Pattern.DOTALL);

    /** Reads one text; a Fault tells its first error. */
    static final class Reader {
        private final List<String> tokens = new ArrayList<>();
        private final List<Integer> places = new ArrayList<>();
        private final Model m = new Model();
        private int at;

        Reader(String text) {
            Matcher matcher = TOKEN.matcher(text);
            while (matcher.find()) {
                tokens.add(matcher.group());
                places.add(matcher.start());
            }
            tokens.add("");
            places.add(text.length());
        }

        Model read() {
            word("market");
            for (int i = 0; i < 3; i++) {
                m.base[i] = number(1, 99);
            }
            word(";");
            while (at < tokens.size() - 1) {
                statement();
            }
            return m;
        }

        private void statement() {
            switch (tokens.get(at)) {
                case "baker": {
                    need(m.bakers.size() < 4, 5);
                    at++;
                    Baker b = new Baker();
                    b.name = newName();
                    b.oven = number(1, 12);
                    b.time = number(1, 9);
                    word(";");
                    m.bakers.add(b);
                    break;
                }
                case "bake": {
                    at++;
                    need(tokens.get(at).matches("[a-z]+"), 1);
                    int baker = m.bakers.stream().map(b -> b.name).collect(Collectors.toList()).indexOf(tokens.get(at));
                    need(baker >= 0, 4);
                    at++;
                    int kind = kind();
                    need(!tokens.get(at).equals(";") || m.refusal(baker) == 0, 6);
                    word(";");
                    m.begin(baker, kind);
                    break;
                }
                case "customer": {
                    need(m.queue.size() < 10, 5);
                    at++;
                    String name = newName();
                    int kind = kind();
                    int wanted = number(1, 9);
                    int limit = number(1, 99);
                    int purse = number(0, 999);
                    int patience = number(1, 99);
                    word(";");
                    m.join(name, kind, wanted, limit, purse, patience);
                    break;
                }
                case "auction": {
                    at++;
                    int kind = kind();
                    word(";");
                    m.auction(kind);
                    break;
                }
                case "sparrows": {
                    at++;
                    int sparrows = number(0, 9);
                    int crumbs = number(0, 999);
                    word(";");
                    m.sparrows = sparrows;
                    m.crumbs = crumbs;
                    break;
                }
                case "hours": {
                    at++;
                    int hours = number(0, 60);
                    word(";");
                    for (int i = 0; i < hours; i++) {
                        m.pass();
                    }
                    break;
                }
                default:
                    need(false, 1);
            }
        }

        private void need(boolean good, int code) {
            if (!good) {
                throw new Fault(code, places.get(at));
            }
        }

        private void word(String word) {
            need(tokens.get(at).equals(word), 1);
            at++;
        }

        private int number(int least, int most) {
            need(tokens.get(at).matches("[0-9]+"), 1);
            java.math.BigInteger value = new java.math.BigInteger(tokens.get(at));
            need(value.bitLength() < 20 && value.intValue() >= least && value.intValue() <= most, 2);
            at++;
            return value.intValue();
        }

        private int kind() {
            int kind = List.of("rye", "wheat", "roll").indexOf(tokens.get(at));
            need(kind >= 0, 1);
            at++;
            return kind;
        }

        private String newName() {
            String name = tokens.get(at);
            need(name.matches("[a-z]+"), 1);
            need(name.length() <= 4, 2);
            need(!m.named(name), 3);
            at++;
            return name;
        }
    }
}
