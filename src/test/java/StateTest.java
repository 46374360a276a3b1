/** Each sentence of "Terms" about undo and exceptions, and of the promises 23 and 24. */
public final class StateTest extends Play {
    private interface OnMachine {
        Object answer(CacheDiary x);
    }

    /** Makes the same machine again and again, since one object is good for 512 calls only. */
    private interface Maker {
        CacheDiary make();
    }

    private static final String UNDO = "Each successful call of a method whose description says \"undoable\" saves the state from"
        + " before the call, even if the call changes nothing; at most 4 states are saved, and the oldest is dropped first.";
    private static final String SAVED = "The saved state contains everything except the text.";
    private static final String REFUSED = "A call that throws an exception changes nothing.";
    private static final String LISTED_FIRST = "If several exceptions apply, the one that is listed first is thrown.";

    private static final OnMachine[] UNDOABLE = {
        x -> x.begin(2, 1, 1), x -> x.read(1, 7), x -> x.write(1, 7, 7), x -> x.takeBack(0), x -> x.pass(100),
        x -> x.drop(3, 3), x -> x.tear(3), x -> x.carryOut(),
    };
    private static final OnMachine[] NOT_UNDOABLE = {
        x -> x.copy(0, 2, 0), x -> x.line(2, 0), x -> x.pending(0, 0), x -> x.entry(0, 0), x -> x.value(0),
        x -> x.cost(0, 0, true), x -> x.nextTorn(), x -> x.nextDropped(0), x -> x.ticksToServe(), x -> x.cheapest(0, true),
        x -> x.hitRate(), x -> x.append('t'), x -> x.clearText(), x -> x.digest(),
    };
    /** Calls that used() and twiceSaved() refuse. */
    private static final OnMachine[] NO_INDEX = {
        x -> x.read(4, 0), x -> x.read(-1, 0), x -> x.read(1, 32), x -> x.read(1, -1), x -> x.write(4, 0, 0),
        x -> x.write(-1, 0, 0), x -> x.write(1, 32, 0), x -> x.write(1, -1, 0), x -> x.takeBack(4), x -> x.takeBack(-1),
        x -> x.drop(4, 3), x -> x.drop(-1, 3), x -> x.drop(3, 32), x -> x.drop(3, -1), x -> x.tear(32), x -> x.tear(-1),
        x -> x.copy(4, 0, 0), x -> x.copy(-1, 0, 0), x -> x.copy(0, 32, 0), x -> x.copy(0, -1, 0), x -> x.line(32, 0),
        x -> x.line(-1, 0), x -> x.pending(4, 0), x -> x.pending(-1, 0), x -> x.entry(12, 0), x -> x.entry(-1, 0),
        x -> x.cost(4, 0, true), x -> x.cost(-1, 0, true), x -> x.cost(0, 32, true), x -> x.cost(0, -1, true),
        x -> x.nextDropped(4), x -> x.nextDropped(-1), x -> x.cheapest(32, true), x -> x.cheapest(-1, true),
    };
    private static final OnMachine[] NO_ARGUMENT = {
        x -> x.begin(1, 4, 4), x -> x.begin(7, 4, 4), x -> x.begin(3, 0, 4), x -> x.begin(3, 9, 4), x -> x.begin(3, 4, 0),
        x -> x.begin(3, 4, 17), x -> x.write(1, 0, -1), x -> x.write(1, 0, 1000), x -> x.pass(0), x -> x.pass(101),
        x -> x.copy(0, 0, -1), x -> x.copy(0, 0, 4), x -> x.line(0, -1), x -> x.line(0, 8), x -> x.pending(0, -1),
        x -> x.pending(0, 3), x -> x.entry(0, -1), x -> x.entry(0, 6), x -> x.value(-1), x -> x.value(14),
        x -> x.append(-1), x -> x.append(128),
    };
    private static final OnMachine[] NO_STATE = {
        x -> x.read(0, 0), x -> x.read(2, 5), x -> x.write(0, 2, 17), x -> x.write(2, 0, 999), x -> x.takeBack(1),
        x -> x.takeBack(3), x -> x.drop(0, 31), x -> x.drop(1, 2), x -> x.tear(31), x -> x.tear(1),
    };

    public static void main(String[] args) {
        undoableCalls();
        otherCalls();
        callsThatChangeNothing();
        fourStates();
        textIsNotSaved();
        everythingElseIsSaved();
        anotherMachineIsUndone();
        rowsAreUndone();
        refusedCalls();
        refusedAtTheLastTime();
        refusedOnANewObject();
        refusedWithAFullText();
        indexFirst();
        argumentFirst();
        undo();
        undoRefused();
        digestOfAll();
        digestOfEachPart();
        the512thCall();
        Check.close();
    }

    /** A machine of 4 caches in which every number is in use, with four saved states and 12 entries in the log. */
    private static CacheDiary used() {
        CacheDiary x = new CacheDiary();
        x.begin(4, 2, 2);
        type(x, "w0:1=11;t1;w0:2=12;t1;r0:1;w1:3=13;t1;r2:1;t1;w2:4=14;r3:4;r1:4;t2;r0:3;t1;r0:3;t1;r3:3;t1;");
        Check.due("used", 19, () -> x.carryOut());
        x.write(3, 3, 15);
        x.read(1, 5);
        x.write(2, 5, 16);
        x.pass(1);
        x.write(0, 2, 17);
        type(x, "r3:9;t50;w3:9=9;t1;");
        return x;
    }

    private static void undoableCalls() {
        for (int i = 0; i < UNDOABLE.length; i++) {
            CacheDiary x = new CacheDiary();
            x.begin(4, 2, 2);
            type(x, "r0:3;r3:3;t1;r0:2;t1;r0:3;r2:3;t1;r2:8;r0:7;");
            x.carryOut();
            undoOf(x, UNDOABLE[i], i);
        }
    }

    private static void undoOf(CacheDiary x, OnMachine call, int number) {
        Check.about("Promise " + (number < 7 ? number + 2 : 22), number < 7 ? "Undoable." : "Undoable (one saved state");
        x.takeBack(2);
        long before = x.digest();
        String first = Check.answerOf(() -> call.answer(x));
        Check.due("the undoable call " + number + " is successful", false, () -> first.startsWith("throws."));
        undone("one state for the call " + number, x, 3);
        Check.due("the state from before the call " + number, before, () -> x.digest());
        Check.due("the call " + number + " again", first, () -> call.answer(x));
    }

    private static void otherCalls() {
        Check.about("Undo", UNDO);
        CacheDiary x = new CacheDiary();
        x.begin(4, 2, 2);
        run(x, "r0:2;t1;");
        for (int i = 0; i < NOT_UNDOABLE.length; i++) {
            OnMachine call = NOT_UNDOABLE[i];
            String answer = Check.answerOf(() -> call.answer(x));
            Check.due("the other call " + i + " is successful", false, () -> answer.startsWith("throws."));
        }
        undone("none of them saves a state", x, 1);
        undone("none of them saves a state", x, 0);
        Check.noState("nor does undo", () -> x.undo());
    }

    private static void callsThatChangeNothing() {
        Check.about("Undo", UNDO);
        CacheDiary x = new CacheDiary();
        long fresh = x.digest();
        x.begin(3, 4, 4);
        Check.due("only the number of saved states is another one", fresh + 1, () -> x.digest());
        x.carryOut();
        Check.due("a text without orders", fresh + 2, () -> x.digest());
        x.begin(3, 4, 4);
        undone("three calls that change nothing", x, 2);
        undone("three calls that change nothing", x, 1);
        undone("three calls that change nothing", x, 0);
        Check.noState("no more", () -> x.undo());
        Check.due("as new", fresh, () -> x.digest());
    }

    private static void fourStates() {
        Check.about("Undo", UNDO);
        for (int calls = 1; calls <= 9; calls++) {
            CacheDiary x = new CacheDiary();
            long[] digests = new long[10];
            for (int i = 0; i < calls; i++) {
                digests[i] = x.digest();
                x.pass(i + 1);
            }
            int kept = calls < 4 ? calls : 4;
            for (int left = kept - 1; left >= 0; left--) {
                undone(calls + " calls", x, left);
                int call = calls - kept + left;
                int time = call * (call + 1) / 2;
                number(calls + " calls, the state from before the call " + call, x, 4, time);
                // In the digest the number of saved states comes last; four were saved before the call 4 and later ones.
                long saved = call < 4 ? call : 4;
                Check.due(calls + " calls, all of the state", digests[call] - saved + left, () -> x.digest());
            }
            Check.noState(calls + " calls, no other state", () -> x.undo());
        }
    }

    private static void textIsNotSaved() {
        Check.about("Undo", SAVED);
        CacheDiary x = new CacheDiary();
        type(x, "t1;");
        x.carryOut();
        x.append('t');
        x.append('2');
        undone("bytes that were appended later", x, 0);
        Check.due("they stay", 6, () -> x.append(';'));
        Check.due("they stay", 2, () -> x.carryOut());
        number("they stay", x, 4, 3);
        x.clearText();
        undone("a text that was emptied later", x, 0);
        Check.due("it stays empty", 0, () -> x.clearText());
        type(x, "r0:1;");
        x.begin(2, 1, 1);
        undone("begin", x, 0);
        Check.due("the text of before", 5, () -> x.clearText());
    }

    private static void everythingElseIsSaved() {
        Check.about("Undo", SAVED);
        for (int i = 0; i < UNDOABLE.length; i++) {
            OnMachine call = UNDOABLE[i];
            CacheDiary x = used();
            long before = x.digest();
            long answers = whatIf(x);
            Check.due("the call " + i + " is successful", false, () -> Check.answerOf(() -> call.answer(x)).startsWith("throws."));
            undone("the call " + i, x, 3);
            Check.due("the digest after the call " + i, before - 1, () -> x.digest());
            Check.due("what if, after the call " + i, answers, () -> whatIf(x));
            CacheDiary y = used();
            for (int step = 0; step < 4; step++) {
                goOn(x, step);
                goOn(y, step);
                Check.due("it goes on as before, call " + i, y.digest(), () -> x.digest());
            }
        }
    }

    /** Four calls that turn every row of the machine over, all of them undone. */
    private static void anotherMachineIsUndone() {
        Check.about("Undo", SAVED);
        for (int calls = 1; calls <= 4; calls++) {
            CacheDiary x = used();
            String orders = "w0:3=903;w3:3=933;w1:4=914;t2;w2:9=929;w1:2=912;r3:1;t1;w0:1=901;r2:1;r1:4;w3:0=930;t1;w3:3=9;";
            type(x, orders);
            CacheDiary y = used();
            type(y, orders);
            x.takeBack(0);
            y.takeBack(0);
            x.pass(5);
            y.pass(5);
            long before = x.digest();
            long answers = whatIf(x);
            for (int call = 0; call < calls; call++) {
                turnOver(x, call);
            }
            for (int call = calls - 1; call >= 0; call--) {
                undone(calls + " calls", x, 4 - calls + call);
            }
            Check.due("the digest of before " + calls + " calls", before - calls, () -> x.digest());
            Check.due("what if, as before " + calls + " calls", answers, () -> whatIf(x));
            Check.due("the orders, as before", y.carryOut(), () -> x.carryOut());
            y.undo();
            x.undo();
            for (int step = 0; step < 4; step++) {
                goOn(x, step);
                goOn(y, step);
            }
            Check.due("it goes on as before", whatIf(y), () -> whatIf(x));
            Check.due("the latest entry is as before", y.entry(0, 3) * 100 + y.entry(0, 0), () -> x.entry(0, 3) * 100 + x.entry(0, 0));
        }
    }

    private static void turnOver(CacheDiary x, int call) {
        switch (call) {
            case 0: x.carryOut(); break;
            case 1: x.begin(6, 3, 7); break;
            case 2: x.carryOut(); break;
            default: x.pass(9);
        }
    }

    /** An undo of each thing that a machine holds and that one call after another changes. */
    private static void rowsAreUndone() {
        Check.about("Undo", SAVED);
        CacheDiary x = machine(3, 2, 4);
        run(x, "w0:5=50;t1;r0:6;t1;w1:7=70;r2:7;");
        // Time 2: the cache 2 is looked at first, so that the cache 1 is put off.
        x.pass(1);
        String shown = shown(x);
        run(x, "w0:5=51;t1;");
        x.undo();
        Check.due("the value of a copy, its use and a request", shown, () -> shown(x));
        x.drop(0, 5);
        run(x, "r0:5;t1;");
        x.undo();
        x.undo();
        Check.due("the slot of a copy", shown, () -> shown(x));
        x.drop(0, 6);
        x.drop(0, 5);
        run(x, "r0:6;t1;r0:5;t1;");
        x.undo();
        x.undo();
        x.undo();
        Check.due("the slots of two copies", shown, () -> shown(x));
        x.takeBack(1);
        x.write(1, 8, 999);
        x.undo();
        x.undo();
        Check.due("what a cache asks for, and how often it was put off", shown, () -> shown(x));
        x.takeBack(1);
        x.write(1, 7, 71);
        x.undo();
        x.undo();
        Check.due("the value that it writes", shown, () -> shown(x));
        Check.due("all of them", "2 50 0 1 1 0 1 0 0 -1 -1 -1 7 70 1 ", () -> shown);
    }

    private static String shown(CacheDiary x) {
        StringBuilder all = new StringBuilder();
        for (int line = 5; line <= 7; line++) {
            for (int what = 0; what < 4; what++) {
                all.append(x.copy(0, line, what)).append(' ');
            }
        }
        for (int what = 0; what < 3; what++) {
            all.append(x.pending(1, what)).append(' ');
        }
        return all.toString();
    }

    private static long whatIf(CacheDiary x) {
        long all = x.ticksToServe();
        for (int cache = 0; cache < 4; cache++) {
            all = 37 * all + x.nextDropped(cache);
            for (int line = 0; line < 10; line++) {
                all = 37 * all + x.cost(cache, line, line % 2 == 0);
            }
        }
        return 37 * all + Double.valueOf(x.hitRate()).hashCode();
    }

    private static void goOn(CacheDiary x, int step) {
        switch (step) {
            case 0: x.pass(3); break;
            case 1: x.read(3, 2); break;
            case 2: x.write(1, 9, 90); break;
            default: x.pass(2);
        }
    }

    /** A machine that refuses the same calls, with two saved states, so that a third one would be seen. */
    private static CacheDiary twiceSaved() {
        CacheDiary x = machine(4, 2, 2);
        run(x, "r0:5;r1:5;r2:5;r3:5;t4;r0:5;r1:5;r2:5;r3:5;t1;r0:5;r1:5;r2:5;r3:5;t1;r0:6;w2:7=9;");
        return x;
    }

    private static void refusedCalls() {
        Check.about("Exceptions", REFUSED);
        goesOnAfterRefusals(used(), used());
        goesOnAfterRefusals(twiceSaved(), twiceSaved());
        CacheDiary x = twiceSaved();
        refuses(x, NO_INDEX, "IndexOutOfBoundsException");
        refuses(x, NO_ARGUMENT, "IllegalArgumentException");
        refuses(x, NO_STATE, "IllegalStateException");
        undone("two saved states", x, 1);
        number("before the orders", x, 4, 0);
        undone("two saved states", x, 0);
        number("before begin", x, 0, 3);
    }

    private static void goesOnAfterRefusals(CacheDiary x, CacheDiary y) {
        Check.due("twelve entries", 12, () -> x.value(13));
        refuses(x, NO_INDEX, "IndexOutOfBoundsException");
        refuses(x, NO_ARGUMENT, "IllegalArgumentException");
        refuses(x, NO_STATE, "IllegalStateException");
        Check.due("the text is as it was", y.carryOut(), () -> x.carryOut());
        for (int step = 0; step < 4; step++) {
            goOn(x, step);
            goOn(y, step);
            Check.due("it goes on as if they had not been called", y.digest(), () -> x.digest());
        }
    }

    private static void refuses(CacheDiary x, OnMachine[] calls, String exception) {
        long before = x.digest();
        for (int i = 0; i < calls.length; i++) {
            OnMachine call = calls[i];
            Check.due("refused call " + i, "throws." + exception, () -> call.answer(x));
            Check.due("refused call " + i + ", digest()", before, () -> x.digest());
        }
    }

    private static void refusedAtTheLastTime() {
        Check.about("Exceptions", REFUSED);
        CacheDiary x = atTime99950();
        x.read(0, 1);
        x.read(1, 1);
        long before = x.digest();
        Check.noState("pass", () -> x.pass(51));
        Check.due("no tick passes", before, () -> x.digest());
        pendingIs("nothing is served", x, 0, 1, -1, 0);
        undone("nothing is saved", x, 3);
        pendingIs("before the second request", x, 1, -1, -1, -1);
    }

    private static void refusedOnANewObject() {
        Check.about("Exceptions", REFUSED);
        CacheDiary x = new CacheDiary();
        long before = x.digest();
        Check.noState("undo", () -> x.undo());
        Check.noState("takeBack", () -> x.takeBack(0));
        Check.noState("drop", () -> x.drop(0, 0));
        Check.noState("tear", () -> x.tear(0));
        Check.noIndex("entry", () -> x.entry(0, 0));
        Check.noArgument("begin", () -> x.begin(3, 4, 17));
        Check.noArgument("pass", () -> x.pass(101));
        Check.due("as new", before, () -> x.digest());
        Check.noState("no state is saved", () -> x.undo());
    }

    private static void refusedWithAFullText() {
        Check.about("Exceptions", REFUSED);
        CacheDiary x = new CacheDiary();
        type(x, "t1;".repeat(32) + "t02;");
        Check.noState("append", () -> x.append('x'));
        Check.noArgument("append", () -> x.append(128));
        Check.due("the text is as it was", 33, () -> x.carryOut());
        number("the text is as it was", x, 4, 34);
        Check.due("a hundred bytes", 100, () -> x.clearText());
    }

    private static void indexFirst() {
        Check.about("Exceptions", LISTED_FIRST);
        CacheDiary x = new CacheDiary();
        x.read(0, 1);
        Check.noIndex("read: line, pending", () -> x.read(0, 32));
        Check.noIndex("write: cache, value", () -> x.write(3, 0, 1000));
        Check.noIndex("write: line, value", () -> x.write(1, 32, -1));
        Check.noIndex("write: line, pending", () -> x.write(0, -1, 0));
        Check.noIndex("write: line, value, pending", () -> x.write(0, 32, 1000));
        Check.noIndex("takeBack: cache, none pending", () -> x.takeBack(3));
        Check.noIndex("drop: cache, no copy", () -> x.drop(3, 0));
        Check.noIndex("drop: line, no copy", () -> x.drop(0, 32));
        Check.noIndex("tear: line, no page", () -> x.tear(32));
        Check.noIndex("copy: cache, what", () -> x.copy(3, 0, 4));
        Check.noIndex("copy: line, what", () -> x.copy(0, 32, -1));
        Check.noIndex("line: line, what", () -> x.line(32, 8));
        Check.noIndex("pending: cache, what", () -> x.pending(3, 3));
        Check.noIndex("entry: index, what", () -> x.entry(0, 6));
    }

    private static void argumentFirst() {
        Check.about("Exceptions", LISTED_FIRST);
        CacheDiary x = atTime99950();
        x.read(0, 1);
        Check.noArgument("write: value, pending", () -> x.write(0, 1, 1000));
        Check.noArgument("write: value below, pending", () -> x.write(0, 1, -1));
        Check.noArgument("pass: ticks, time", () -> x.pass(101));
        Check.noArgument("pass: far more ticks, time", () -> x.pass(Integer.MAX_VALUE));
        x.pass(50);
        Check.noArgument("pass: no ticks, last time", () -> x.pass(0));
        Check.noState("pass: last time alone", () -> x.pass(1));
        type(x, "t1;".repeat(33) + "t");
        Check.noArgument("append: value, full", () -> x.append(128));
        Check.noArgument("append: value below, full", () -> x.append(-1));
        Check.noState("append: full alone", () -> x.append(127));
    }

    private static void undo() {
        Check.about("Promise 23", "Restores the most recently saved state and removes it from the saved states.");
        CacheDiary x = new CacheDiary();
        run(x, "w0:1=10;r1:1;t1;");
        x.tear(1);
        undone("tear", x, 1);
        lineFact("the page is there again", x, 1, 4, 1);
        undone("the orders", x, 0);
        number("the time is 0 again", x, 4, 0);
        x.pass(7);
        x.pass(8);
        undone("saved again", x, 1);
        number("saved again", x, 4, 7);
        Check.about("Promise 23", "Returns the number of saved states that remain.");
        for (int i = 0; i < 9; i++) {
            x.pass(1);
        }
        for (int left = 3; left >= 0; left--) {
            undone("four of them", x, left);
        }
        for (int i = 0; i < 20; i++) {
            x.pass(1);
            undone("one at a time", x, 0);
        }
    }

    private static void undoRefused() {
        Check.about("Promise 23", "Throws `IllegalStateException` if there is no saved state");
        CacheDiary x = new CacheDiary();
        Check.noState("a new one", () -> x.undo());
        x.pass(1);
        undone("one state", x, 0);
        Check.noState("it was removed", () -> x.undo());
        x.append('t');
        x.value(0);
        Check.noState("calls that are not undoable", () -> x.undo());
        for (int i = 0; i < 6; i++) {
            x.pass(1);
        }
        for (int left = 3; left >= 0; left--) {
            undone("six calls", x, left);
        }
        Check.noState("only four were kept", () -> x.undo());
        number("the oldest of them", x, 4, 2);
    }

    private static final String DIGEST = "Start with h = 3677 and, for each of the following values v, set h = 31 * h + v: the"
        + " length of the text; value() for 0 to 13; for each line the values of line() for what = 0 to 7, and then for each"
        + " cache those of copy() of this line for what = 0 to 3; for each cache the values of pending() for what = 0 to 2; for"
        + " each entry that is kept, from the latest one, the values of entry() for what = 0 to 5; nextTorn(); the number of"
        + " saved states.";

    private static void digestOfAll() {
        Check.about("Promise 24", DIGEST);
        digestIs("new", 0, 0, () -> new CacheDiary());
        digestIs("begun", 0, 1, () -> machine(2, 1, 1));
        String orders = "w0:31=999;t1;r1:31;t1;w0:0=1;w1:0=2;t1;";
        digestIs("a text", orders.length(), 1, () -> carriedOut(2, 1, 1, orders, 0));
        digestIs("carried out", orders.length(), 2, () -> carriedOut(2, 1, 1, orders, 1));
        digestIs("four saved states", orders.length(), 4, () -> carriedOut(2, 1, 1, orders, 3));
        digestIs("four saved states still", orders.length(), 4, () -> carriedOut(2, 1, 1, orders, 4));
        digestIs("undone", orders.length(), 3, () -> {
            CacheDiary x = carriedOut(2, 1, 1, orders, 4);
            x.undo();
            return x;
        });
        digestIs("used, twelve entries", 19, 4, () -> used());
        String many = "w5:31=999;r4:31;t2;r3:31;w2:0=1;t1;r0:1;r1:2;t1;r0:3;r1:4;r2:5;r3:6;r4:7;r5:8;t1;r0:9;w1:9=7;t1;";
        digestIs("the largest machine", many.length(), 2, () -> carriedOut(6, 8, 16, many, 1));
        String one = "w1:31=1;t1;";
        digestIs("the smallest machine", one.length(), 2, () -> carriedOut(2, 1, 1, one, 1));
        digestIs("a full text", 100, 1, () -> carriedOut(3, 4, 4, "x".repeat(100), 1));
    }

    private static CacheDiary carriedOut(int caches, int slots, int pages, String orders, int times) {
        CacheDiary x = machine(caches, slots, pages);
        type(x, orders);
        for (int i = 0; i < times; i++) {
            x.carryOut();
        }
        return x;
    }

    private static void digestIs(String name, int textLength, int savedStates, Maker maker) {
        long want = byHand(maker, textLength, savedStates);
        CacheDiary x = maker.make();
        Check.due(name, want, () -> x.digest());
        Check.due(name + ", again", want, () -> x.digest());
    }

    private static long byHand(Maker maker, int textLength, int savedStates) {
        CacheDiary x = maker.make();
        long h = 31L * 3677 + textLength;
        for (int what = 0; what < 14; what++) {
            h = 31 * h + x.value(what);
        }
        for (int line = 0; line < 32; line++) {
            h = lineByHand(h, maker.make(), line);
        }
        for (int cache = 0; cache < x.value(0); cache++) {
            for (int what = 0; what < 3; what++) {
                h = 31 * h + x.pending(cache, what);
            }
        }
        for (int index = 0; index < x.value(13); index++) {
            for (int what = 0; what < 6; what++) {
                h = 31 * h + x.entry(index, what);
            }
        }
        h = 31 * h + x.nextTorn();
        return 31 * h + savedStates;
    }

    private static long lineByHand(long before, CacheDiary x, int line) {
        long h = before;
        for (int what = 0; what < 8; what++) {
            h = 31 * h + x.line(line, what);
        }
        for (int cache = 0; cache < x.value(0); cache++) {
            for (int what = 0; what < 4; what++) {
                h = 31 * h + x.copy(cache, line, what);
            }
        }
        return h;
    }

    private static void digestOfEachPart() {
        Check.about("Promise 24", "with the overflow of long arithmetic ignored.");
        CacheDiary x = new CacheDiary();
        // Behind the length of the text: 14 numbers, 32 lines of 8 and 3 * 4 values, 3 * 3 of requests, and two more.
        int behind = 14 + 32 * (8 + 3 * 4) + 3 * 3 + 2;
        long before = x.digest();
        for (int length = 1; length <= 100; length++) {
            x.append(0);
            Check.due("a text of " + length, before + length * powerOf31(behind), () -> x.digest());
        }
        CacheDiary y = new CacheDiary();
        long fresh = y.digest();
        y.pass(100);
        Check.due("the time, and a saved state", fresh + 100 * powerOf31(behind - 5) + 1, () -> y.digest());
    }

    private static long powerOf31(int n) {
        long power = 1;
        for (int i = 0; i < n; i++) {
            power *= 31;
        }
        return power;
    }

    private static void the512thCall() {
        Check.about("What it is", "An object is used for at most 512 calls after it has been made");
        CacheDiary x = new CacheDiary();
        for (int call = 1; call < 512; call++) {
            x.pass(1);
        }
        Check.due("the 512th call", 511, () -> x.value(4));
        CacheDiary y = new CacheDiary();
        for (int call = 1; call < 511; call += 2) {
            y.write(call % 3, call % 32, call);
            y.pass(1);
        }
        y.pass(1);
        Check.due("the 512th call", 255, () -> y.value(7) + y.value(6));
    }
}
