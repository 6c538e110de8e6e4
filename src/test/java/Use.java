import java.nio.charset.StandardCharsets;

/** Ways to use a market that many tests share. */
final class Use {
    private Use() {
    }

    /** Makes the text the whole input buffer. */
    static void feed(LoafMarket market, String text) {
        byte[] bytes = text.getBytes(StandardCharsets.ISO_8859_1);
        market.truncateInput(0);
        for (int i = 0; i < bytes.length; i += 20) {
            market.appendInput(word(bytes, i), word(bytes, i + 4), word(bytes, i + 8), word(bytes, i + 12), word(bytes, i + 16));
        }
        market.truncateInput(bytes.length);
    }

    private static int word(byte[] bytes, int from) {
        int word = 0;
        for (int i = from; i < from + 4; i++) {
            word = word << 8 | (i < bytes.length ? bytes[i] & 255 : 0);
        }
        return word;
    }

    static LoafMarket loaded(String text) {
        LoafMarket market = new LoafMarket();
        feed(market, text);
        market.load();
        return market;
    }

    /** What a new object says of the text: fine, or the error code and the error position. */
    static String verdict(String text) {
        LoafMarket market = new LoafMarket();
        feed(market, text);
        try {
            market.load();
        } catch (IllegalArgumentException e) {
            return market.errorCode() + " at " + market.errorPosition();
        }
        return "fine";
    }

    /** The length of the input buffer, which is left as it is. */
    static int inputLength(LoafMarket market) {
        try {
            int length = market.appendInput(0, 0, 0, 0, 0) - 20;
            return market.truncateInput(length);
        } catch (IllegalStateException e) {
            return longInputLength(market);
        }
    }

    /** Of a buffer that has no room for 20 bytes more: the greatest length that can be kept. */
    private static int longInputLength(LoafMarket market) {
        for (int length = 600; length > 580; length--) {
            try {
                return market.truncateInput(length);
            } catch (IllegalArgumentException e) {
                continue;
            }
        }
        return -1;
    }

    static String output(LoafMarket market) {
        StringBuilder text = new StringBuilder();
        try {
            for (int i = 0; i < 200; i++) {
                text.append((char) market.outputByte(i));
            }
        } catch (java.util.NoSuchElementException e) {
            return text.toString();
        }
        return text.append("..").toString();
    }

    /** Any number of hours; 0 are no call. */
    static void pass(LoafMarket market, int hours) {
        for (int left = hours; left > 0; left -= 60) {
            market.passHours(Math.min(60, left));
        }
    }

    static int join(LoafMarket market, String name, int kind, int wanted, int limit, int purse, int patience) {
        feed(market, name);
        return market.joinQueue(kind, wanted, limit, purse, patience);
    }

    static String queue(LoafMarket market) {
        int length = market.writeQueue();
        StringBuilder text = new StringBuilder();
        for (int i = 0; i < length; i++) {
            text.append((char) market.outputByte(i));
        }
        return text.toString();
    }

    static String bakerName(LoafMarket market, int baker) {
        StringBuilder name = new StringBuilder();
        try {
            for (int i = 0; i < 9; i++) {
                name.append((char) market.bakerNameByte(baker, i));
            }
        } catch (java.util.NoSuchElementException e) {
            return name.toString();
        }
        return name.append("..").toString();
    }

    static String customerName(LoafMarket market, int customer) {
        StringBuilder name = new StringBuilder();
        try {
            for (int i = 0; i < 9; i++) {
                name.append((char) market.customerNameByte(customer, i));
            }
        } catch (java.util.NoSuchElementException e) {
            return name.toString();
        }
        return name.append("..").toString();
    }

    /** The remembered events as type:first:second, the oldest first. */
    static String events(LoafMarket market) {
        StringBuilder text = new StringBuilder();
        int count = market.eventCount();
        for (int i = 0; i < count; i++) {
            text.append(i == 0 ? "" : " ").append(market.eventType(i)).append(':').append(market.eventFirst(i)).append(':').append(market.eventSecond(i));
        }
        return text.toString();
    }

    /** The stock as kind:baker:age, by number. */
    static String stock(LoafMarket market) {
        StringBuilder text = new StringBuilder();
        int count = market.loafCount();
        for (int i = 0; i < count; i++) {
            text.append(i == 0 ? "" : " ").append(market.loafKind(i)).append(':').append(market.loafBaker(i)).append(':').append(market.loafAge(i));
        }
        return text.toString();
    }

    /**
     * The whole state, without the output, which this leaves alone. An object is used for at most 512 calls: this takes
     * about 100 of them for a new market, and some 430 for the fullest one.
     */
    static String state(LoafMarket m) {
        StringBuilder text = new StringBuilder();
        int bakers = m.bakerCount();
        int customers = m.customerCount();
        text.append(m.hour()).append(' ').append(m.crumbs()).append(' ').append(m.sparrows()).append(" base");
        for (int i = 0; i < 3; i++) {
            text.append(' ').append(m.basePrice(i));
        }
        for (int i = 0; i < bakers; i++) {
            text.append(" | ").append(bakerName(m, i)).append(' ').append(m.ovenSize(i)).append(' ').append(m.bakingKind(i));
            text.append(' ').append(m.hoursLeft(i)).append(' ').append(m.income(i));
        }
        for (int i = 0; i < customers; i++) {
            text.append(" | ").append(customerName(m, i)).append(' ').append(m.ticketOf(i)).append(' ').append(m.kindWanted(i));
            text.append(' ').append(m.wanted(i)).append(' ').append(m.limitPrice(i)).append(' ').append(m.purse(i)).append(' ').append(m.patience(i));
        }
        text.append(" | ").append(stock(m)).append(" | ").append(events(m)).append(" | ").append(m.soldShare());
        return text.append(' ').append(m.moneyDifference()).append(' ').append(m.loafDifference()).toString();
    }
}
