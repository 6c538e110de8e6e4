import java.util.NoSuchElementException;

/** A bread market: bakers, loaves that age, a queue of customers, auctions, crumbs and sparrows. */
public final class LoafMarket {
    public static final int NONE = -1;
    public static final int RYE = 0, WHEAT = 1, ROLL = 2;
    public static final int BAKED = 0, SOLD = 1, WASTED = 2, LEFT = 3;

    private static final int KINDS = 3;
    private static final int MOST_BAKERS = 4;
    private static final int MOST_LOAVES = 60;
    private static final int MOST_CUSTOMERS = 10;
    private static final int MOST_WANTED = 9;
    private static final int MOST_BIDS = 90;
    private static final int MOST_EVENTS = 30;
    private static final int MOST_SPARROWS = 9;
    private static final int MOST_PRICE = 99;
    private static final int MOST_PURSE = 999;
    private static final int MOST_PATIENCE = 99;
    private static final int MOST_HOURS = 60;
    private static final int FARTHEST_HOUR = 100;
    private static final int LAST_BEST_HOUR = 24;
    private static final int OLDEST_AGE = 999;
    private static final int NAME_LETTERS = 4;
    private static final int INPUT_BYTES = 600;
    private static final int APPENDED_BYTES = 20;
    private static final int OUTPUT_BYTES = 120;
    private static final int SLOTS = 2;
    private static final int MOST_UNDO = 8;

    private static final int WANTS_NO_MORE = 0, OUT_OF_PATIENCE = 1, SENT_AWAY = 2;

    private static final String FIRST_TEXT = "market 20 10 8;baker ann 4 2;baker bob 3 1;bake ann rye;bake bob roll;hours 2;bake bob wheat;customer cid roll 2 6 50 9;customer dot rye 3 25 60 5;customer eli roll 2 4 9 3;sparrows 2 7;hours 1;";

    private final State state = new State();
    /** Holds the market of a question about the future, or of a text that is being loaded. */
    private final State scratch = new State();
    private final Auction plan = new Auction();
    private final byte[] input = new byte[INPUT_BYTES];
    private final Loader loader = new Loader(input, plan);
    private final byte[] output = new byte[OUTPUT_BYTES];
    /** A slot is null until it is saved to. */
    private final State[] slots = new State[SLOTS];
    /** The states before the remembered calls, the oldest first. */
    private final State[] past = new State[MOST_UNDO];
    private int pastCount;
    private int inputLength;
    private int outputLength;
    private int latestError;
    private int latestErrorPosition;

    public LoafMarket() {
        int length = FIRST_TEXT.length();
        for (int i = 0; i < length && i < INPUT_BYTES; i++) {
            input[i] = (byte) FIRST_TEXT.charAt(i);
        }
        loader.read(length, state);
        latestErrorPosition = NONE;
    }

    // ---- the input text ----

    public int appendInput(int a, int b, int c, int d, int e) throws IllegalStateException {
        if (inputLength > INPUT_BYTES - APPENDED_BYTES) {
            throw new IllegalStateException("the input buffer would be too long");
        }
        appendWord(a);
        appendWord(b);
        appendWord(c);
        appendWord(d);
        appendWord(e);
        return inputLength;
    }

    public int truncateInput(int length) throws IllegalArgumentException {
        needRange(length, 0, inputLength);
        inputLength = length;
        return inputLength;
    }

    public int load() throws IllegalArgumentException {
        loader.read(inputLength, scratch);
        inputLength = 0;
        latestError = loader.error;
        latestErrorPosition = loader.errorPosition;
        if (latestError != 0) {
            throw new IllegalArgumentException("the text has an error");
        }
        remember();
        state.copyFrom(scratch);
        return state.customers.count;
    }

    public int errorCode() {
        return latestError;
    }

    public int errorPosition() {
        return latestErrorPosition;
    }

    // ---- the market as a whole ----

    public int hour() {
        return state.hour;
    }

    public int bakerCount() {
        return state.bakers.count;
    }

    public int customerCount() {
        return state.customers.count;
    }

    public int loafCount() {
        return state.stock.count;
    }

    public int crumbs() {
        return state.crumbs;
    }

    public int sparrows() {
        return state.sparrows;
    }

    // ---- bakers ----

    public int bakerNameByte(int baker, int position) throws IndexOutOfBoundsException, NoSuchElementException {
        needBaker(baker);
        return letterOf(state.bakers.name[baker], position);
    }

    public int ovenSize(int baker) throws IndexOutOfBoundsException {
        needBaker(baker);
        return state.bakers.oven[baker];
    }

    public int bakingKind(int baker) throws IndexOutOfBoundsException {
        needBaker(baker);
        return state.bakers.kind[baker];
    }

    public int hoursLeft(int baker) throws IndexOutOfBoundsException {
        needBaker(baker);
        return state.bakers.left[baker];
    }

    public int income(int baker) throws IndexOutOfBoundsException {
        needBaker(baker);
        return state.bakers.earned[baker];
    }

    public int bakeRefusal(int baker, int kind) throws IndexOutOfBoundsException {
        needBaker(baker);
        needKind(kind);
        return state.refusal(baker);
    }

    // ---- customers ----

    public int customerNameByte(int customer, int position) throws IndexOutOfBoundsException, NoSuchElementException {
        needCustomer(customer);
        return letterOf(state.customers.name[customer], position);
    }

    public int ticketOf(int customer) throws IndexOutOfBoundsException {
        needCustomer(customer);
        return state.customers.ticket[customer];
    }

    public int kindWanted(int customer) throws IndexOutOfBoundsException {
        needCustomer(customer);
        return state.customers.kind[customer];
    }

    public int wanted(int customer) throws IndexOutOfBoundsException {
        needCustomer(customer);
        return state.customers.wanted[customer];
    }

    public int limitPrice(int customer) throws IndexOutOfBoundsException {
        needCustomer(customer);
        return state.customers.limit[customer];
    }

    public int purse(int customer) throws IndexOutOfBoundsException {
        needCustomer(customer);
        return state.customers.purse[customer];
    }

    public int patience(int customer) throws IndexOutOfBoundsException {
        needCustomer(customer);
        return state.customers.patience[customer];
    }

    public int customerWithTicket(int ticket) {
        return find(state.customers.ticket, state.customers.count, ticket);
    }

    // ---- loaves and prices ----

    public int loafKind(int loaf) throws IndexOutOfBoundsException {
        needLoaf(loaf);
        return state.stock.kind[loaf];
    }

    public int loafBaker(int loaf) throws IndexOutOfBoundsException {
        needLoaf(loaf);
        return state.stock.baker[loaf];
    }

    public int loafAge(int loaf) throws IndexOutOfBoundsException {
        needLoaf(loaf);
        return state.ageOf(loaf);
    }

    public int reservePrice(int loaf) throws IndexOutOfBoundsException {
        needLoaf(loaf);
        return state.reserveOf(loaf);
    }

    public int hoursUntilStale(int loaf) throws IndexOutOfBoundsException {
        needLoaf(loaf);
        int kind = state.stock.kind[loaf];
        int age = state.ageOf(loaf);
        for (int hours = 0; hours <= FARTHEST_HOUR; hours++) {
            if (reserve(kind, state.baseOf(kind), age + hours) == 0) {
                return hours;
            }
        }
        return NONE;
    }

    public int basePrice(int kind) throws IndexOutOfBoundsException {
        needKind(kind);
        return state.baseOf(kind);
    }

    public int reserveAt(int kind, int age) throws IndexOutOfBoundsException, IllegalArgumentException {
        needKind(kind);
        needRange(age, 0, OLDEST_AGE);
        return reserve(kind, state.baseOf(kind), age);
    }

    // ---- an auction as it would be now ----

    public int bidCount(int kind) throws IndexOutOfBoundsException {
        needKind(kind);
        plan.prepare(state, kind);
        return plan.bids;
    }

    public int tradeCount(int kind) throws IndexOutOfBoundsException {
        needKind(kind);
        plan.prepare(state, kind);
        return plan.trades;
    }

    public int clearingPrice(int kind) throws IndexOutOfBoundsException {
        needKind(kind);
        plan.prepare(state, kind);
        return plan.trades == 0 ? NONE : plan.price;
    }

    public int reasonNoTrades(int kind) throws IndexOutOfBoundsException {
        needKind(kind);
        plan.prepare(state, kind);
        return plan.reasonForNone();
    }

    public int buyerOf(int kind, int trade) throws IndexOutOfBoundsException, NoSuchElementException {
        needKind(kind);
        plan.prepare(state, kind);
        needTrade(trade);
        return plan.bidder[trade];
    }

    public int loafOf(int kind, int trade) throws IndexOutOfBoundsException, NoSuchElementException {
        needKind(kind);
        plan.prepare(state, kind);
        needTrade(trade);
        return plan.loaf[trade];
    }

    public int gain(int kind) throws IndexOutOfBoundsException {
        needKind(kind);
        plan.prepare(state, kind);
        return plan.surplus();
    }

    // ---- events and accounts ----

    public int eventCount() {
        return state.events.count;
    }

    public int eventType(int event) throws IndexOutOfBoundsException {
        needEvent(event);
        return state.events.type[event];
    }

    public int eventFirst(int event) throws IndexOutOfBoundsException {
        needEvent(event);
        return state.events.first[event];
    }

    public int eventSecond(int event) throws IndexOutOfBoundsException {
        needEvent(event);
        return state.events.second[event];
    }

    public int moneyDifference() {
        return state.joinedCoins - sum(state.customers.purse, state.customers.count)
                - state.leftCoins - sum(state.bakers.earned, state.bakers.count);
    }

    public int loafDifference() {
        return state.bakedLoaves - state.soldLoaves - state.wastedLoaves - state.stock.count;
    }

    // ---- the future ----

    public int sparrowsAfter(int hours) throws IllegalArgumentException {
        needRange(hours, 0, FARTHEST_HOUR);
        lookAhead(hours);
        return scratch.sparrows;
    }

    public int loavesAfter(int hours) throws IllegalArgumentException {
        needRange(hours, 0, FARTHEST_HOUR);
        lookAhead(hours);
        return scratch.stock.count;
    }

    public int tradesAfter(int kind, int hours) throws IndexOutOfBoundsException, IllegalArgumentException {
        needKind(kind);
        needRange(hours, 0, FARTHEST_HOUR);
        lookAhead(hours);
        plan.prepare(scratch, kind);
        return plan.trades;
    }

    public int bestHour(int kind) throws IndexOutOfBoundsException {
        needKind(kind);
        lookAhead(0);
        int best = 0;
        int most = 0;
        for (int hours = 0; hours <= LAST_BEST_HOUR; hours++) {
            plan.prepare(scratch, kind);
            int coins = plan.trades * plan.price;
            if (coins > most) {
                most = coins;
                best = hours;
            }
            scratch.passHour();
        }
        return best;
    }

    // ---- shares ----

    public double meanAge() {
        int loaves = state.stock.count;
        if (loaves <= 0) {
            return 0.0;
        }
        int ages = 0;
        for (int i = 0; i < loaves; i++) {
            ages += state.ageOf(i);
        }
        return (double) ages / (double) loaves;
    }

    public float soldShare() {
        if (state.bakedLoaves <= 0) {
            return 0.0f;
        }
        return (float) state.soldLoaves / (float) state.bakedLoaves;
    }

    // ---- what changes the market ----

    public int bake(int baker, int kind) throws IndexOutOfBoundsException, IllegalStateException {
        needBaker(baker);
        needKind(kind);
        if (state.refusal(baker) != 0) {
            throw new IllegalStateException("the baker cannot begin to bake");
        }
        remember();
        state.bakers.begin(baker, kind);
        return state.bakers.oven[baker];
    }

    public int auction(int kind) throws IndexOutOfBoundsException {
        needKind(kind);
        remember();
        plan.hold(state, kind);
        return plan.trades;
    }

    public int joinQueue(int kind, int wanted, int limit, int purse, int patience) throws IndexOutOfBoundsException, IllegalArgumentException, IllegalStateException {
        needKind(kind);
        needRange(wanted, 1, MOST_WANTED);
        needRange(limit, 1, MOST_PRICE);
        needRange(purse, 0, MOST_PURSE);
        needRange(patience, 1, MOST_PATIENCE);
        int name = packName(input, 0, inputLength);
        if (name == NONE) {
            throw new IllegalArgumentException("the input buffer is not a name");
        }
        if (state.customers.count >= MOST_CUSTOMERS || state.hasName(name)) {
            throw new IllegalStateException("the queue is full or the name is taken");
        }
        remember();
        inputLength = 0;
        return state.welcome(name, kind, wanted, limit, purse, patience);
    }

    public int sendAway(int customer) throws IndexOutOfBoundsException {
        needCustomer(customer);
        remember();
        int coins = state.customers.purse[customer];
        state.dismiss(customer, SENT_AWAY);
        state.customers.closeGaps();
        return coins;
    }

    public int setBasePrice(int kind, int price) throws IndexOutOfBoundsException, IllegalArgumentException {
        needKind(kind);
        needRange(price, 1, MOST_PRICE);
        remember();
        int previous = state.baseOf(kind);
        state.base[kind] = price;
        return previous;
    }

    public int scatter(int number) throws IllegalArgumentException {
        needRange(number, 1, 99);
        remember();
        state.crumbs += number;
        return state.crumbs;
    }

    public int passHours(int hours) throws IllegalArgumentException {
        needRange(hours, 1, MOST_HOURS);
        remember();
        int before = state.wastedLoaves;
        for (int i = 0; i < hours; i++) {
            state.passHour();
        }
        return state.wastedLoaves - before;
    }

    // ---- the output ----

    public int writeQueue() {
        Customers queue = state.customers;
        outputLength = 0;
        for (int i = 0; i < queue.count && i < MOST_CUSTOMERS; i++) {
            if (i > 0) {
                write(' ');
            }
            writeName(queue.name[i]);
            write('*');
            writeNumber(queue.wanted[i]);
            write(queue.kind[i] == RYE ? 'r' : queue.kind[i] == WHEAT ? 'w' : 'o');
            write('@');
            writeNumber(queue.limit[i]);
        }
        return outputLength;
    }

    public int outputByte(int position) throws NoSuchElementException {
        if (position < 0 || position >= outputLength) {
            throw new NoSuchElementException("the output has no such position");
        }
        return output[position];
    }

    // ---- slots and undo ----

    public int save(int slot) throws IndexOutOfBoundsException {
        needSlot(slot);
        State copy = slots[slot];
        if (copy == null) {
            copy = new State();
            slots[slot] = copy;
        }
        copy.copyFrom(state);
        return state.hour;
    }

    public int restore(int slot) throws IndexOutOfBoundsException, IllegalStateException {
        needSlot(slot);
        State copy = slots[slot];
        if (copy == null) {
            throw new IllegalStateException("the slot is empty");
        }
        remember();
        state.copyFrom(copy);
        return state.hour;
    }

    public int undo() throws IllegalStateException {
        State before = pastCount > 0 && pastCount <= MOST_UNDO ? past[pastCount - 1] : null;
        if (before == null) {
            throw new IllegalStateException("no call is remembered");
        }
        state.copyFrom(before);
        pastCount--;
        return pastCount;
    }

    public int undoDepth() {
        return pastCount;
    }

    // ---- tests of arguments ----

    private static void needRange(int value, int least, int most) {
        if (value < least || value > most) {
            throw new IllegalArgumentException("a number is out of range");
        }
    }

    private static void needIndex(int index, int count) {
        if (index < 0 || index >= count) {
            throw new IndexOutOfBoundsException("there is no such number");
        }
    }

    private static void needKind(int kind) {
        needIndex(kind, KINDS);
    }

    private static void needSlot(int slot) {
        needIndex(slot, SLOTS);
    }

    private void needBaker(int baker) {
        needIndex(baker, state.bakers.count);
    }

    private void needCustomer(int customer) {
        needIndex(customer, state.customers.count);
    }

    private void needLoaf(int loaf) {
        needIndex(loaf, state.stock.count);
    }

    private void needEvent(int event) {
        needIndex(event, state.events.count);
    }

    private void needTrade(int trade) {
        if (trade < 0 || trade >= plan.trades) {
            throw new NoSuchElementException("there would be no such trade");
        }
    }

    // ---- small helpers of the calls ----

    private void appendWord(int word) {
        for (int shift = 24; shift >= 0 && inputLength < INPUT_BYTES; shift -= 8) {
            input[inputLength] = (byte) (word >> shift);
            inputLength++;
        }
    }

    private void write(int sign) {
        if (outputLength < OUTPUT_BYTES) {
            output[outputLength] = (byte) sign;
            outputLength++;
        }
    }

    private void writeName(int name) {
        int letters = nameLength(name);
        for (int i = 0; i < letters; i++) {
            write(letterAt(name, i));
        }
    }

    /** The queue holds no number above 99. */
    private void writeNumber(int number) {
        if (number >= 10) {
            write('0' + number / 10);
        }
        write('0' + number % 10);
    }

    private static int letterOf(int name, int position) {
        if (position < 0 || position >= nameLength(name)) {
            throw new NoSuchElementException("the name has no such position");
        }
        return letterAt(name, position);
    }

    private void lookAhead(int hours) {
        scratch.copyFrom(state);
        for (int i = 0; i < hours; i++) {
            scratch.passHour();
        }
    }

    private void remember() {
        if (pastCount >= MOST_UNDO) {
            forgetOldest();
        }
        State copy = past[pastCount];
        if (copy == null) {
            copy = new State();
            past[pastCount] = copy;
        }
        copy.copyFrom(state);
        pastCount++;
    }

    /** The oldest state goes to the end, so that its rows are used again. */
    private void forgetOldest() {
        State oldest = past[0];
        for (int i = 1; i < MOST_UNDO; i++) {
            past[i - 1] = past[i];
        }
        past[MOST_UNDO - 1] = oldest;
        pastCount = MOST_UNDO - 1;
    }

    // ---- names, packed into an int with the first letter lowest, so that equal names are equal numbers ----

    /** NONE if these bytes are not 1 to 4 letters a to z. */
    private static int packName(byte[] text, int start, int end) {
        if (start < 0 || end > text.length || end <= start || end - start > NAME_LETTERS) {
            return NONE;
        }
        int name = 0;
        for (int i = start; i < end; i++) {
            if (!isLetter(text[i])) {
                return NONE;
            }
            name |= text[i] << 8 * (i - start);
        }
        return name;
    }

    private static int letterAt(int name, int position) {
        return name >> 8 * position & 255;
    }

    private static int nameLength(int name) {
        int length = 0;
        while (length < NAME_LETTERS && letterAt(name, length) != 0) {
            length++;
        }
        return length;
    }

    private static boolean isLetter(int sign) {
        return sign >= 'a' && sign <= 'z';
    }

    private static boolean isDigit(int sign) {
        return sign >= '0' && sign <= '9';
    }

    // ---- the price rule ----

    private static int reserve(int kind, int base, int age) {
        if (kind == RYE) {
            int fallen = age <= 24 ? base : base - 2 * (age - 24);
            return fallen < 0 ? 0 : fallen;
        }
        if (kind == WHEAT) {
            int fallen = base - base * age / 20;
            return fallen < 0 ? 0 : fallen;
        }
        // A shift counts only to 31, and no base price outlives seven halvings.
        int halvings = age / 4;
        return halvings > 7 ? 0 : base >> halvings;
    }

    // ---- rows of numbers ----

    private static void copyRow(int[] from, int[] to) {
        int length = from.length < to.length ? from.length : to.length;
        System.arraycopy(from, 0, to, 0, length);
    }

    /** The first place of the value among the first count numbers of the row; NONE if there is none. */
    private static int find(int[] row, int count, int value) {
        for (int i = 0; i < count && i < row.length; i++) {
            if (row[i] == value) {
                return i;
            }
        }
        return NONE;
    }

    private static int sum(int[] row, int count) {
        int total = 0;
        for (int i = 0; i < count && i < row.length; i++) {
            total += row[i];
        }
        return total;
    }

    /** All that undo, save and restore bring back. */
    private static final class State {
        final int[] base = new int[KINDS];
        final Bakers bakers = new Bakers();
        final Stock stock = new Stock();
        final Customers customers = new Customers();
        final Events events = new Events();
        int hour;
        int crumbs;
        int sparrows;
        int bakedLoaves;
        int soldLoaves;
        int wastedLoaves;
        int joinedCoins;
        int leftCoins;

        void clear() {
            bakers.count = 0;
            stock.count = 0;
            customers.count = 0;
            customers.nextTicket = 0;
            events.count = 0;
            hour = 0;
            crumbs = 0;
            sparrows = 0;
            bakedLoaves = 0;
            soldLoaves = 0;
            wastedLoaves = 0;
            joinedCoins = 0;
            leftCoins = 0;
        }

        void copyFrom(State other) {
            copyRow(other.base, base);
            bakers.copyFrom(other.bakers);
            stock.copyFrom(other.stock);
            customers.copyFrom(other.customers);
            events.copyFrom(other.events);
            hour = other.hour;
            crumbs = other.crumbs;
            sparrows = other.sparrows;
            bakedLoaves = other.bakedLoaves;
            soldLoaves = other.soldLoaves;
            wastedLoaves = other.wastedLoaves;
            joinedCoins = other.joinedCoins;
            leftCoins = other.leftCoins;
        }

        int baseOf(int kind) {
            return kind >= 0 && kind < KINDS ? base[kind] : 0;
        }

        int ageOf(int loaf) {
            return loaf >= 0 && loaf < stock.count ? hour - stock.born[loaf] : 0;
        }

        int reserveOf(int loaf) {
            if (loaf < 0 || loaf >= stock.count) {
                return 0;
            }
            int kind = stock.kind[loaf];
            return reserve(kind, baseOf(kind), hour - stock.born[loaf]);
        }

        boolean hasName(int name) {
            return find(bakers.name, bakers.count, name) != NONE
                    || find(customers.name, customers.count, name) != NONE;
        }

        /** 0 if the baker can begin to bake, otherwise the first reason why not. */
        int refusal(int baker) {
            if (baker < 0 || baker >= bakers.count || bakers.kind[baker] != NONE) {
                return 1;
            }
            return stock.count + bakers.loavesInOvens() + bakers.oven[baker] > MOST_LOAVES ? 2 : 0;
        }

        /** The queue must have room; the answer is the ticket. */
        int welcome(int name, int kind, int wanted, int limit, int purse, int patience) {
            joinedCoins += purse;
            return customers.add(name, kind, wanted, limit, purse, patience);
        }

        /** The customer's place in the queue stays a gap until customers.closeGaps. */
        void dismiss(int customer, int reason) {
            if (customer >= 0 && customer < customers.count) {
                events.add(LEFT, customers.ticket[customer], reason);
                leftCoins += customers.purse[customer];
                customers.ticket[customer] = NONE;
            }
        }

        void passHour() {
            hour++;
            emptyOvens();
            throwOutStale();
            feedSparrows();
            loseOnePatience();
        }

        private void emptyOvens() {
            for (int i = 0; i < bakers.count; i++) {
                if (bakers.kind[i] != NONE) {
                    bakers.left[i]--;
                    if (bakers.left[i] <= 0) {
                        stock.add(bakers.oven[i], bakers.kind[i], i, hour);
                        bakedLoaves += bakers.oven[i];
                        events.add(BAKED, i, bakers.oven[i]);
                        bakers.rest(i);
                    }
                }
            }
        }

        private void throwOutStale() {
            for (int i = 0; i < stock.count; i++) {
                if (reserveOf(i) == 0) {
                    events.add(WASTED, stock.kind[i], stock.baker[i]);
                    wastedLoaves++;
                    crumbs += 5;
                    // Marked only now: the reserve price needs the kind.
                    stock.kind[i] = NONE;
                }
            }
            stock.closeGaps();
        }

        private void feedSparrows() {
            int eaten = 3 * sparrows;
            crumbs = eaten < crumbs ? crumbs - eaten : 0;
            if (crumbs > 20) {
                if (sparrows < MOST_SPARROWS) {
                    sparrows++;
                }
            } else if (crumbs == 0 && sparrows > 0) {
                sparrows--;
            }
        }

        private void loseOnePatience() {
            for (int i = 0; i < customers.count; i++) {
                customers.patience[i]--;
                if (customers.patience[i] <= 0) {
                    dismiss(i, OUT_OF_PATIENCE);
                }
            }
            customers.closeGaps();
        }
    }

    /** The bakers; kind is NONE and left is 0 while one does not bake. */
    private static final class Bakers {
        int count;
        final int[] name = new int[MOST_BAKERS];
        final int[] oven = new int[MOST_BAKERS];
        final int[] time = new int[MOST_BAKERS];
        final int[] kind = new int[MOST_BAKERS];
        final int[] left = new int[MOST_BAKERS];
        final int[] earned = new int[MOST_BAKERS];

        void copyFrom(Bakers other) {
            count = other.count;
            copyRow(other.name, name);
            copyRow(other.oven, oven);
            copyRow(other.time, time);
            copyRow(other.kind, kind);
            copyRow(other.left, left);
            copyRow(other.earned, earned);
        }

        void add(int newName, int size, int hours) {
            if (count < MOST_BAKERS) {
                name[count] = newName;
                oven[count] = size;
                time[count] = hours;
                kind[count] = NONE;
                left[count] = 0;
                earned[count] = 0;
                count++;
            }
        }

        void begin(int baker, int newKind) {
            if (baker >= 0 && baker < count) {
                kind[baker] = newKind;
                left[baker] = time[baker];
            }
        }

        void rest(int baker) {
            if (baker >= 0 && baker < count) {
                kind[baker] = NONE;
                left[baker] = 0;
            }
        }

        void earn(int baker, int coins) {
            if (baker >= 0 && baker < count) {
                earned[baker] += coins;
            }
        }

        int loavesInOvens() {
            int loaves = 0;
            for (int i = 0; i < count; i++) {
                if (kind[i] != NONE) {
                    loaves += oven[i];
                }
            }
            return loaves;
        }
    }

    /** The loaves; one whose kind is NONE is a gap that closeGaps takes away. */
    private static final class Stock {
        int count;
        final int[] kind = new int[MOST_LOAVES];
        final int[] baker = new int[MOST_LOAVES];
        final int[] born = new int[MOST_LOAVES];

        void copyFrom(Stock other) {
            count = other.count;
            copyRow(other.kind, kind);
            copyRow(other.baker, baker);
            copyRow(other.born, born);
        }

        void add(int number, int newKind, int newBaker, int hour) {
            for (int i = 0; i < number && count < MOST_LOAVES; i++) {
                kind[count] = newKind;
                baker[count] = newBaker;
                born[count] = hour;
                count++;
            }
        }

        void closeGaps() {
            int kept = 0;
            for (int i = 0; i < count; i++) {
                if (kind[i] != NONE) {
                    kind[kept] = kind[i];
                    baker[kept] = baker[i];
                    born[kept] = born[i];
                    kept++;
                }
            }
            count = kept;
        }
    }

    /** The queue; a customer whose ticket is NONE is a gap that closeGaps takes away. */
    private static final class Customers {
        int count;
        int nextTicket;
        final int[] name = new int[MOST_CUSTOMERS];
        final int[] ticket = new int[MOST_CUSTOMERS];
        final int[] kind = new int[MOST_CUSTOMERS];
        final int[] wanted = new int[MOST_CUSTOMERS];
        final int[] limit = new int[MOST_CUSTOMERS];
        final int[] purse = new int[MOST_CUSTOMERS];
        final int[] patience = new int[MOST_CUSTOMERS];

        void copyFrom(Customers other) {
            count = other.count;
            nextTicket = other.nextTicket;
            copyRow(other.name, name);
            copyRow(other.ticket, ticket);
            copyRow(other.kind, kind);
            copyRow(other.wanted, wanted);
            copyRow(other.limit, limit);
            copyRow(other.purse, purse);
            copyRow(other.patience, patience);
        }

        int add(int newName, int newKind, int loaves, int newLimit, int coins, int hours) {
            if (count >= MOST_CUSTOMERS) {
                return NONE;
            }
            int place = count;
            name[place] = newName;
            ticket[place] = nextTicket;
            kind[place] = newKind;
            wanted[place] = loaves;
            limit[place] = newLimit;
            purse[place] = coins;
            patience[place] = hours;
            count++;
            nextTicket++;
            return ticket[place];
        }

        void pay(int customer, int price) {
            if (customer >= 0 && customer < count) {
                purse[customer] -= price;
                wanted[customer]--;
            }
        }

        /** How many loaves of the kind the customer bids for now. */
        int bidsOf(int customer, int auctionKind) {
            if (customer < 0 || customer >= count || kind[customer] != auctionKind || limit[customer] <= 0) {
                return 0;
            }
            int affordable = purse[customer] / limit[customer];
            return affordable < wanted[customer] ? affordable : wanted[customer];
        }

        void closeGaps() {
            int kept = 0;
            for (int i = 0; i < count; i++) {
                if (ticket[i] != NONE) {
                    move(i, kept);
                    kept++;
                }
            }
            count = kept;
        }

        private void move(int from, int to) {
            if (from < 0 || from >= MOST_CUSTOMERS || to < 0 || to >= MOST_CUSTOMERS) {
                return;
            }
            name[to] = name[from];
            ticket[to] = ticket[from];
            kind[to] = kind[from];
            wanted[to] = wanted[from];
            limit[to] = limit[from];
            purse[to] = purse[from];
            patience[to] = patience[from];
        }
    }

    /** The latest events, the oldest first. */
    private static final class Events {
        int count;
        final int[] type = new int[MOST_EVENTS];
        final int[] first = new int[MOST_EVENTS];
        final int[] second = new int[MOST_EVENTS];

        void copyFrom(Events other) {
            count = other.count;
            copyRow(other.type, type);
            copyRow(other.first, first);
            copyRow(other.second, second);
        }

        void add(int newType, int newFirst, int newSecond) {
            if (count >= MOST_EVENTS) {
                System.arraycopy(type, 1, type, 0, MOST_EVENTS - 1);
                System.arraycopy(first, 1, first, 0, MOST_EVENTS - 1);
                System.arraycopy(second, 1, second, 0, MOST_EVENTS - 1);
                count = MOST_EVENTS - 1;
            }
            type[count] = newType;
            first[count] = newFirst;
            second[count] = newSecond;
            count++;
        }
    }

    /** The bids and the loaves of one auction, in the order in which they meet. */
    private static final class Auction {
        int bids;
        final int[] bidder = new int[MOST_BIDS];
        final int[] amount = new int[MOST_BIDS];
        int loaves;
        final int[] loaf = new int[MOST_LOAVES];
        final int[] asked = new int[MOST_LOAVES];
        int trades;
        /** 0 if there are no trades. */
        int price;

        void prepare(State market, int kind) {
            bids = 0;
            for (int i = 0; i < market.customers.count; i++) {
                insertBids(i, market.customers.limit[i], market.customers.bidsOf(i, kind));
            }
            // The stock is in the order of age, so one kind stands there with ascending reserve prices already.
            loaves = 0;
            for (int i = 0; i < market.stock.count && loaves < MOST_LOAVES; i++) {
                if (market.stock.kind[i] == kind) {
                    loaf[loaves] = i;
                    asked[loaves] = market.reserveOf(i);
                    loaves++;
                }
            }
            trades = 0;
            while (trades < bids && trades < loaves && amount[trades] >= asked[trades]) {
                trades++;
            }
            price = trades == 0 ? 0 : priceOfTrades();
        }

        /** Sells in the market what prepare finds. */
        void hold(State market, int kind) {
            prepare(market, kind);
            if (trades == 0) {
                return;
            }
            for (int i = 0; i < trades; i++) {
                sell(market, bidder[i], loaf[i], kind);
            }
            market.stock.closeGaps();
            market.events.add(SOLD, kind, price);
            Customers queue = market.customers;
            for (int i = 0; i < queue.count; i++) {
                if (queue.wanted[i] <= 0) {
                    market.dismiss(i, WANTS_NO_MORE);
                }
            }
            queue.closeGaps();
        }

        int reasonForNone() {
            if (trades > 0) {
                return 0;
            }
            return loaves == 0 ? 1 : bids == 0 ? 2 : 3;
        }

        /** The sum of the bids minus the reserve prices over all trades. */
        int surplus() {
            return sum(amount, trades) - sum(asked, trades);
        }

        private void sell(State market, int customer, int sold, int kind) {
            if (sold < 0 || sold >= market.stock.count) {
                return;
            }
            market.customers.pay(customer, price);
            market.bakers.earn(market.stock.baker[sold], price);
            market.stock.kind[sold] = NONE;
            market.soldLoaves++;
            market.crumbs += kind == RYE ? 1 : kind == WHEAT ? 2 : 3;
        }

        private int priceOfTrades() {
            int highest = 1;
            if (trades > 0 && trades <= loaves && asked[trades - 1] > highest) {
                highest = asked[trades - 1];
            }
            if (trades < bids && amount[trades] > highest) {
                highest = amount[trades];
            }
            return highest;
        }

        /** Behind all bids that are as high, which keeps the order of the queue. */
        private void insertBids(int customer, int limit, int number) {
            for (int i = 0; i < number && bids < MOST_BIDS; i++) {
                int place = bids;
                while (place > 0 && amount[place - 1] < limit) {
                    amount[place] = amount[place - 1];
                    bidder[place] = bidder[place - 1];
                    place--;
                }
                amount[place] = limit;
                bidder[place] = customer;
                bids++;
            }
        }
    }

    /** Cuts the input text into tokens; type, start and end tell the token that is looked at. */
    private static final class Tokens {
        static final int END = 0, WORD = 1, NUMBER = 2, SIGN = 3;
        /** Above every range of the document, and far below what an int holds. */
        static final int HUGE = 100000;

        private final byte[] text;
        private int length;
        int type;
        int start;
        int end;

        Tokens(byte[] input) {
            text = input;
        }

        void begin(int textLength) {
            length = textLength < text.length ? textLength : text.length;
            end = 0;
            next();
        }

        void next() {
            int at = end;
            while (at < length && (text[at] == ' ' || text[at] == '\n')) {
                at++;
            }
            start = at;
            if (at >= length) {
                type = END;
            } else if (isLetter(text[at])) {
                type = WORD;
                while (at < length && isLetter(text[at])) {
                    at++;
                }
            } else if (isDigit(text[at])) {
                type = NUMBER;
                while (at < length && isDigit(text[at])) {
                    at++;
                }
            } else {
                type = SIGN;
                at++;
            }
            end = at;
        }

        boolean isWord(String word) {
            if (type != WORD || word.length() != end - start) {
                return false;
            }
            for (int i = 0; i < word.length() && start + i < length; i++) {
                if (word.charAt(i) != text[start + i]) {
                    return false;
                }
            }
            return true;
        }

        boolean isSemicolon() {
            return type == SIGN && start < length && text[start] == ';';
        }

        /** NONE if the token is not a word of 1 to 4 letters. */
        int name() {
            return packName(text, start, end);
        }

        /** The value of a number, HUGE for all that are larger. */
        int value() {
            int value = 0;
            for (int i = start; i < end && i < length; i++) {
                value = value * 10 + text[i] - '0';
                if (value > HUGE) {
                    value = HUGE;
                }
            }
            return value;
        }
    }

    /** Reads the statements and runs them; after the first error nothing more is read. */
    private static final class Loader {
        private static final int NOT_ALLOWED = 1, OUT_OF_RANGE = 2, NAME_TAKEN = 3, NO_SUCH_BAKER = 4, NO_ROOM = 5, CANNOT_BAKE = 6;

        private final Tokens tokens;
        private final Auction auction;
        int error;
        int errorPosition;

        Loader(byte[] input, Auction rows) {
            tokens = new Tokens(input);
            auction = rows;
        }

        /** The market is that of the text only if there is no error. */
        void read(int length, State market) {
            error = 0;
            errorPosition = NONE;
            market.clear();
            tokens.begin(length);
            if (tokens.isWord("market")) {
                marketStatement(market);
            } else {
                fail(NOT_ALLOWED);
            }
            // Each statement takes at least one byte of the text.
            for (int i = 0; i < length && error == 0 && tokens.type != Tokens.END; i++) {
                if (tokens.isWord("baker")) {
                    bakerStatement(market);
                } else if (tokens.isWord("bake")) {
                    bakeStatement(market);
                } else if (tokens.isWord("customer")) {
                    customerStatement(market);
                } else if (tokens.isWord("auction")) {
                    auctionStatement(market);
                } else if (tokens.isWord("sparrows")) {
                    sparrowsStatement(market);
                } else if (tokens.isWord("hours")) {
                    hoursStatement(market);
                } else {
                    fail(NOT_ALLOWED);
                }
            }
        }

        private void marketStatement(State market) {
            tokens.next();
            int rye = number(1, MOST_PRICE);
            int wheat = number(1, MOST_PRICE);
            int roll = number(1, MOST_PRICE);
            semicolon();
            if (error == 0) {
                market.base[RYE] = rye;
                market.base[WHEAT] = wheat;
                market.base[ROLL] = roll;
            }
        }

        private void bakerStatement(State market) {
            if (market.bakers.count >= MOST_BAKERS) {
                fail(NO_ROOM);
                return;
            }
            tokens.next();
            int name = newName(market);
            int size = number(1, 12);
            int hours = number(1, 9);
            semicolon();
            if (error == 0) {
                market.bakers.add(name, size, hours);
            }
        }

        private void bakeStatement(State market) {
            tokens.next();
            int baker = knownBaker(market.bakers);
            int kind = kind();
            if (error == 0 && tokens.isSemicolon() && market.refusal(baker) != 0) {
                fail(CANNOT_BAKE);
            }
            semicolon();
            if (error == 0) {
                market.bakers.begin(baker, kind);
            }
        }

        private void customerStatement(State market) {
            if (market.customers.count >= MOST_CUSTOMERS) {
                fail(NO_ROOM);
                return;
            }
            tokens.next();
            int name = newName(market);
            int kind = kind();
            int wanted = number(1, MOST_WANTED);
            int limit = number(1, MOST_PRICE);
            int purse = number(0, MOST_PURSE);
            int patience = number(1, MOST_PATIENCE);
            semicolon();
            if (error == 0) {
                market.welcome(name, kind, wanted, limit, purse, patience);
            }
        }

        private void auctionStatement(State market) {
            tokens.next();
            int kind = kind();
            semicolon();
            if (error == 0) {
                auction.hold(market, kind);
            }
        }

        private void sparrowsStatement(State market) {
            tokens.next();
            int sparrows = number(0, MOST_SPARROWS);
            int crumbs = number(0, 999);
            semicolon();
            if (error == 0) {
                market.sparrows = sparrows;
                market.crumbs = crumbs;
            }
        }

        private void hoursStatement(State market) {
            tokens.next();
            int hours = number(0, MOST_HOURS);
            semicolon();
            for (int i = 0; i < hours && error == 0; i++) {
                market.passHour();
            }
        }

        private void fail(int code) {
            error = code;
            errorPosition = tokens.start;
        }

        private void semicolon() {
            if (error == 0) {
                if (tokens.isSemicolon()) {
                    tokens.next();
                } else {
                    fail(NOT_ALLOWED);
                }
            }
        }

        private int number(int least, int most) {
            if (error != 0) {
                return least;
            }
            if (tokens.type != Tokens.NUMBER) {
                fail(NOT_ALLOWED);
                return least;
            }
            int value = tokens.value();
            if (value < least || value > most) {
                fail(OUT_OF_RANGE);
            } else {
                tokens.next();
            }
            return value;
        }

        private int kind() {
            if (error != 0) {
                return NONE;
            }
            int kind = tokens.isWord("rye") ? RYE : tokens.isWord("wheat") ? WHEAT : tokens.isWord("roll") ? ROLL : NONE;
            if (kind == NONE) {
                fail(NOT_ALLOWED);
            } else {
                tokens.next();
            }
            return kind;
        }

        /** A name comes first in its statement, so no error has been found before it. */
        private int newName(State market) {
            int name = tokens.name();
            if (tokens.type != Tokens.WORD) {
                fail(NOT_ALLOWED);
            } else if (name == NONE) {
                fail(OUT_OF_RANGE);
            } else if (market.hasName(name)) {
                fail(NAME_TAKEN);
            } else {
                tokens.next();
            }
            return name;
        }

        /** A word of more than 4 letters is a name that no baker has. */
        private int knownBaker(Bakers bakers) {
            int baker = find(bakers.name, bakers.count, tokens.name());
            if (tokens.type != Tokens.WORD) {
                fail(NOT_ALLOWED);
            } else if (baker == NONE) {
                fail(NO_SUCH_BAKER);
            } else {
                tokens.next();
            }
            return baker;
        }
    }
}
