/**
 * Holds an object that got a call against one, made in the same way, that did not: what the document leaves as it was
 * must be the same in both. Each part of the object is looked at in a pair of its own, as a look changes it and an
 * object is used for at most 512 calls.
 */
final class Twin {
    interface Maker {
        LoafMarket make();
    }

    interface Act {
        int run(LoafMarket market);
    }

    static final String[] PARTS = {"market", "error", "output", "buffer", "undo", "slots"};

    private Twin() {
    }

    /** A market of which every part holds something: an error, an output, a buffer, remembered calls and both slots. */
    static LoafMarket rich() {
        LoafMarket m = new LoafMarket();
        Use.feed(m, "market 1 1 1;hours 61;");
        tryLoad(m);
        m.save(1);
        m.bake(0, 2);
        m.passHours(1);
        m.save(0);
        m.scatter(7);
        m.writeQueue();
        m.sendAway(0);
        Use.feed(m, "market 5 6 7;hours 3;");
        return m;
    }

    /** The same with the market of this text; the buffer then holds what is given. */
    static LoafMarket rich(String text, String buffer) {
        LoafMarket m = new LoafMarket();
        Use.feed(m, "market 1 1 1;hours 61;");
        tryLoad(m);
        m.save(1);
        Use.feed(m, text);
        m.load();
        m.save(0);
        m.writeQueue();
        Use.feed(m, buffer);
        return m;
    }

    /** The call throws this exception and changes nothing. */
    static void refused(Check check, String what, Class<? extends RuntimeException> kind, Maker maker, Act act) {
        for (String part : PARTS) {
            LoafMarket called = maker.make();
            check.dueThrow(what, kind, () -> act.run(called));
            check.dueText(part + " after the refused " + what, look(part, called), look(part, maker.make()));
        }
    }

    static void refusedIndex(Check check, String what, Maker maker, Act act) {
        refused(check, what, IndexOutOfBoundsException.class, maker, act);
    }

    static void refusedArgument(Check check, String what, Maker maker, Act act) {
        refused(check, what, IllegalArgumentException.class, maker, act);
    }

    static void refusedState(Check check, String what, Maker maker, Act act) {
        refused(check, what, IllegalStateException.class, maker, act);
    }

    static void refusedElement(Check check, String what, Maker maker, Act act) {
        refused(check, what, java.util.NoSuchElementException.class, maker, act);
    }

    /** The call, which throws or not, leaves these parts as they were. */
    static void leaves(Check check, String what, Maker maker, Act act, String... parts) {
        for (String part : parts) {
            LoafMarket called = maker.make();
            quietly(called, act);
            check.dueText(part + " after " + what, look(part, called), look(part, maker.make()));
        }
    }

    static void quietly(LoafMarket m, Act act) {
        try {
            act.run(m);
        } catch (IllegalArgumentException | IllegalStateException | IndexOutOfBoundsException | java.util.NoSuchElementException e) {
            return;
        }
    }

    static void tryLoad(LoafMarket m) {
        quietly(m, LoafMarket::load);
    }

    static String look(String part, LoafMarket m) {
        switch (part) {
            case "market":
                return Use.state(m);
            case "error":
                return m.errorCode() + " at " + m.errorPosition();
            case "output":
                return Use.output(m);
            case "buffer":
                return buffer(m);
            case "undo":
                return undo(m);
            default:
                return slot(m, 0) + " and " + slot(m, 1);
        }
    }

    /** The length, and what load makes of the bytes. */
    private static String buffer(LoafMarket m) {
        String length = Use.inputLength(m) + " bytes: ";
        tryLoad(m);
        return length + m.errorCode() + " at " + m.errorPosition() + ", " + m.hour() + " " + m.basePrice(0) + " " + m.basePrice(2);
    }

    private static String undo(LoafMarket m) {
        StringBuilder text = new StringBuilder();
        int depth = m.undoDepth();
        for (int i = 0; i < depth; i++) {
            text.append(m.undoDepth()).append(':').append(m.undo()).append(' ').append(m.hour()).append(' ').append(m.crumbs()).append(' ');
            text.append(m.basePrice(0)).append(' ').append(m.loafCount()).append(' ').append(Use.queue(m)).append(" | ");
        }
        return text.toString();
    }

    private static String slot(LoafMarket m, int slot) {
        try {
            m.restore(slot);
        } catch (IllegalStateException e) {
            return "empty";
        }
        return Use.state(m);
    }
}
