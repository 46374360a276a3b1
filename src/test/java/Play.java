/** What the tests do to a machine, and ask of it, in one call each. */
abstract class Play {
    private static final String LATEST_TEXT = "t50;t50;t50;t50;t50;t50;t50;t50;t50;t50;"
        + "t50;t50;t50;t50;t50;t50;t50;t50;t50;t50;t50;t50;t50;t50;t50;";

    static CacheDiary machine(int caches, int slots, int pages) {
        CacheDiary x = new CacheDiary();
        x.begin(caches, slots, pages);
        return x;
    }

    static void type(CacheDiary x, String text) {
        x.clearText();
        for (int i = 0; i < text.length(); i++) {
            x.append(text.charAt(i));
        }
    }

    /** Carries orders out, all of them. */
    static void run(CacheDiary x, String orders) {
        type(x, orders);
        int count = orders.length() - orders.replace(";", "").length();
        Check.due("carryOut() of " + orders, count, () -> x.carryOut());
    }

    static void serveRead(CacheDiary x, int cache, int line) {
        x.read(cache, line);
        x.pass(1);
    }

    static void serveWrite(CacheDiary x, int cache, int line, int value) {
        x.write(cache, line, value);
        x.pass(1);
    }

    /** A machine with 3 caches at the time 99950, with four saved states. */
    static CacheDiary atTime99950() {
        CacheDiary x = new CacheDiary();
        type(x, LATEST_TEXT);
        for (int i = 0; i < 79; i++) {
            x.carryOut();
        }
        for (int i = 0; i < 12; i++) {
            x.pass(100);
        }
        Check.due("the time", 99950, () -> x.value(4));
        return x;
    }

    /** The numbers of value() from 0 on. */
    static void numbers(String name, CacheDiary x, int... want) {
        for (int what = 0; what < want.length; what++) {
            number(name, x, what, want[what]);
        }
    }

    static void number(String name, CacheDiary x, int what, int want) {
        Check.due(name + " value(" + what + ")", want, () -> x.value(what));
    }

    static void lineIs(String name, CacheDiary x, int line, int... want) {
        for (int what = 0; what < want.length; what++) {
            lineFact(name, x, line, what, want[what]);
        }
    }

    static void lineFact(String name, CacheDiary x, int line, int what, int want) {
        Check.due(name + " line(" + line + ", " + what + ")", want, () -> x.line(line, what));
    }

    static void copyIs(String name, CacheDiary x, int cache, int line, int... want) {
        for (int what = 0; what < want.length; what++) {
            copyFact(name, x, cache, line, what, want[what]);
        }
    }

    static void copyFact(String name, CacheDiary x, int cache, int line, int what, int want) {
        Check.due(name + " copy(" + cache + ", " + line + ", " + what + ")", want, () -> x.copy(cache, line, what));
    }

    static void noCopy(String name, CacheDiary x, int cache, int line) {
        copyIs(name, x, cache, line, 0, -1, -1, -1);
    }

    static void pendingIs(String name, CacheDiary x, int cache, int... want) {
        for (int what = 0; what < want.length; what++) {
            int w = what;
            Check.due(name + " pending(" + cache + ", " + w + ")", want[w], () -> x.pending(cache, w));
        }
    }

    static void entryIs(String name, CacheDiary x, int index, int... want) {
        for (int what = 0; what < want.length; what++) {
            int w = what;
            Check.due(name + " entry(" + index + ", " + w + ")", want[w], () -> x.entry(index, w));
        }
    }

    /** The messages of the request that was served last. */
    static void sent(String name, CacheDiary x, int want) {
        Check.due(name + ": its messages", want, () -> x.entry(0, 4));
    }

    static void torn(String name, CacheDiary x, int want) {
        Check.due(name + ": nextTorn()", want, () -> x.nextTorn());
    }

    static void dropped(String name, CacheDiary x, int cache, int want) {
        Check.due(name + ": nextDropped(" + cache + ")", want, () -> x.nextDropped(cache));
    }

    static void undone(String name, CacheDiary x, int statesLeft) {
        Check.due(name + ": undo()", statesLeft, () -> x.undo());
    }
}
