/** Each sentence of "Terms" about the text, and of the promises 20 to 22. */
public final class TextTest extends Play {
    private static final String DIGITS = "0123456789";

    private static final String READ = "\"r\", a cache digit 0 to 5, a colon, and a line of one or two digits, 0 to 31, to ask"
        + " for a read";
    private static final String WRITE = "\"w\" with the same, \"=\" and a value of one to three digits, 0 to 999, to ask for a"
        + " write";
    private static final String TICKS = "\"t\" and a number of one or two digits, 1 to 50, to let so many ticks pass.";
    private static final String ERROR = "The syntax error position is the index of the first byte that cannot stand where it"
        + " stands (a digit too many, too), or the length of the text if the text ends too early.";
    private static final String OUT_OF_RANGE = "For a number that is out of its range it is the index of its first digit,"
        + " found when a byte that is no digit, whichever it is, or the end of the text, follows it.";

    public static void main(String[] args) {
        length();
        sequence();
        reads();
        writes();
        ticks();
        noSpacesNoOrders();
        zerosInFront();
        bytesThatCannotStand();
        digitsTooMany();
        endsTooEarly();
        outOfRange();
        outOfRangeWhateverFollows();
        append();
        appendRefused();
        clearText();
        carryOut();
        carryOutUpToAnException();
        carryOutUpToTheLastTime();
        carryOutIsUndoable();
        carryOutWithAnError();
        Check.close();
    }

    /** A new machine is given a text; it is to answer and to save a state, or to save none, as due. */
    private static void answers(String text, int want) {
        CacheDiary x = new CacheDiary();
        for (int i = 0; i < text.length(); i++) {
            x.append(text.charAt(i));
        }
        Check.due("the text " + text, want, () -> x.carryOut());
        if (want < 0) {
            Check.noState("undo() after the text " + text, () -> x.undo());
        } else {
            Check.due("undo() after the text " + text, 0, () -> x.undo());
        }
    }

    private static void errs(String text, int position) {
        answers(text, -10 - position);
    }

    /** At this place the bytes of good can stand, while the text ends too early behind them; all others can not. */
    private static void place(String before, String good, String last) {
        for (int b = 0; b <= 127; b++) {
            String text = before + (char) b;
            if (last.indexOf(b) >= 0) {
                answers(text, text.length() - text.replace(";", "").length());
            } else {
                errs(text, good.indexOf(b) >= 0 ? text.length() : before.length());
            }
        }
    }

    private static String times(int count, String order) {
        return order.repeat(count);
    }

    private static void length() {
        Check.about("Text", "The text has at most 100 bytes.");
        answers(times(33, "t1;"), 33);
        answers(times(32, "t1;") + "t01;", 33);
        errs(times(33, "t1;") + "t", 100);
        errs(times(33, "t1;") + "1", 99);
        answers(times(10, "w0:31=999;"), 1);
        CacheDiary x = new CacheDiary();
        type(x, times(33, "t1;") + "t");
        Check.noState("a byte more", () -> x.append(';'));
        Check.due("it is not there", -110, () -> x.carryOut());
        Check.due("a hundred", 100, () -> x.clearText());
    }

    private static void sequence() {
        Check.about("Text", "It is a sequence of orders, each terminated by a semicolon");
        answers("t1;", 1);
        answers("t1;t2;", 2);
        answers("r0:1;w1:2=3;t1;", 3);
        errs("t1", 2);
        errs("t1;t2", 5);
        errs("t1;;", 3);
        errs(";", 0);
        errs(";t1;", 0);
        errs("t1t2;", 2);
        errs("r0:1r1:1;", 4);
        errs("r0:1,", 4);
        errs("t1:", 2);
    }

    private static void asked(String order, int cache, int line, int value) {
        CacheDiary x = machine(6, 4, 4);
        type(x, order);
        Check.due(order, 1, () -> x.carryOut());
        pendingIs(order, x, cache, line, value, 0);
        number(order, x, 12, 1);
    }

    private static void reads() {
        Check.about("Text", READ);
        for (int cache = 0; cache < 6; cache++) {
            asked("r" + cache + ":31;", cache, 31, -1);
        }
        for (int line = 0; line < 32; line++) {
            asked("r5:" + line + ";", 5, line, -1);
        }
        errs("r6:0;", 1);
        errs("r9:0;", 1);
        errs("r66", 1);
        errs("r:0;", 1);
        errs("r00:0;", 2);
        errs("r0;", 2);
        errs("r0=0;", 2);
        errs("r0:;", 3);
        errs("r0:32;", 3);
        errs("r0:99;", 3);
        errs("r0:-1;", 3);
        errs("r0:1=5;", 4);
        errs("R0:0;", 0);
    }

    private static void writes() {
        Check.about("Text", WRITE);
        for (int cache = 0; cache < 6; cache++) {
            asked("w" + cache + ":31=999;", cache, 31, 999);
        }
        for (int line = 0; line < 32; line++) {
            asked("w0:" + line + "=0;", 0, line, 0);
        }
        asked("w5:0=9;", 5, 0, 9);
        asked("w5:0=10;", 5, 0, 10);
        asked("w5:0=99;", 5, 0, 99);
        asked("w5:0=100;", 5, 0, 100);
        errs("w6:0=0;", 1);
        errs("w/:0=0;", 1);
        errs("w0=0;", 2);
        errs("w0:=0;", 3);
        errs("w0:32=5;", 3);
        errs("w0:1;", 4);
        errs("w0:1=;", 5);
        errs("w0:1==", 5);
        errs("w0:1=1000;", 8);
        errs("w0:1=12=", 7);
        errs("W0:1=0;", 0);
    }

    private static void ticks() {
        Check.about("Text", TICKS);
        for (int n = 1; n <= 50; n++) {
            CacheDiary x = new CacheDiary();
            type(x, "t" + n + ";");
            Check.due("t" + n + ";", 1, () -> x.carryOut());
            number("t" + n + ";", x, 4, n);
        }
        errs("t0;", 1);
        errs("t51;", 1);
        errs("t99;", 1);
        errs("t100;", 3);
        errs("t;", 1);
        errs("t:1;", 1);
        errs("t1=1;", 2);
        errs("T1;", 0);
    }

    private static void noSpacesNoOrders() {
        Check.about("Text", "There are no spaces; there may be no orders.");
        answers("", 0);
        errs(" ", 0);
        errs(" t1;", 0);
        errs("t 1;", 1);
        errs("t1 ;", 2);
        errs("t1; ", 3);
        errs("t1; t1;", 3);
        errs("r 0:1;", 1);
        errs("r0 :1;", 2);
        errs("r0: 1;", 3);
        errs("r0:1 ;", 4);
        errs("r0:31 ;", 5);
        errs("w0:1 =1;", 4);
        errs("w0:1= 1;", 5);
        errs("w0:1=1 ;", 6);
        errs("w0:1=111 ;", 8);
        errs("t1;\n", 3);
    }

    private static void zerosInFront() {
        Check.about("Text", "Numbers can have zeros in front.");
        asked("r0:00;", 0, 0, -1);
        asked("r0:01;", 0, 1, -1);
        asked("w0:09=8;", 0, 9, 8);
        asked("w0:0=00;", 0, 0, 0);
        asked("w0:0=000;", 0, 0, 0);
        asked("w0:0=07;", 0, 0, 7);
        asked("w0:0=007;", 0, 0, 7);
        asked("w0:0=070;", 0, 0, 70);
        answers("t01;", 1);
        answers("t09;", 1);
        errs("t00;", 1);
        errs("r0:001;", 5);
        errs("w0:001=1;", 5);
        errs("w0:1=0001;", 8);
        errs("t001;", 3);
        errs("r01:1;", 2);
    }

    private static void bytesThatCannotStand() {
        Check.about("Text", ERROR);
        place("", "rwt", "");
        place("t1;", "rwt", "");
        place("r", "012345", "");
        place("w", "012345", "");
        place("r5", ":", "");
        place("w0", ":", "");
        place("r2:", DIGITS, "");
        place("w2:", DIGITS, "");
        place("r2:1", DIGITS, ";");
        place("w2:1", DIGITS + "=", "");
        place("r2:31", "", ";");
        place("w2:31", "=", "");
        place("w2:31=", DIGITS, "");
        place("w2:31=9", DIGITS, ";");
        place("w2:31=99", DIGITS, ";");
        place("w2:31=999", "", ";");
        place("t4", DIGITS, ";");
        place("t50", "", ";");
        place("t", DIGITS.substring(1), "");
        errs("xyz", 0);
        errs("r0:1;x", 5);
        errs("r0:1;w1:2=3;t1;q", 15);
    }

    private static void digitsTooMany() {
        Check.about("Text", ERROR);
        for (char digit : DIGITS.toCharArray()) {
            errs("r0:10" + digit, 5);
            errs("r0:10" + digit + ";", 5);
            errs("w0:00" + digit + "=0;", 5);
            errs("w0:10=100" + digit, 9);
            errs("w0:1=000" + digit + ";", 8);
            errs("t10" + digit, 3);
            errs("t00" + digit + ";", 3);
            // The number is out of its range already, but that is not found before a byte that is no digit.
            errs("r0:32" + digit, 5);
            errs("w0:99" + digit + "=0;", 5);
            errs("t51" + digit + ";", 3);
        }
    }

    private static void endsTooEarly() {
        Check.about("Text", ERROR);
        String orders = "r2:31;w1:31=999;t50;";
        for (int length = 0; length <= orders.length(); length++) {
            String text = orders.substring(0, length);
            if (text.isEmpty() || text.endsWith(";")) {
                answers(text, text.length() - text.replace(";", "").length());
            } else {
                errs(text, length);
            }
        }
        errs("r", 1);
        errs("r0:1", 4);
        errs("w0:1", 4);
        errs("w0:1=9", 6);
        errs("t5", 2);
        errs("t1;t", 4);
    }

    private static void outOfRange() {
        Check.about("Text", OUT_OF_RANGE);
        for (int n = 32; n <= 99; n++) {
            errs("r0:" + n + ";", 3);
            errs("w0:" + n + "=1;", 3);
        }
        for (int n = 51; n <= 99; n++) {
            errs("t" + n + ";", 1);
        }
        errs("t0;", 1);
        errs("t00;", 1);
        errs("t0", 1);
        errs("t00", 1);
        errs("t51", 1);
        errs("r0:32", 3);
        errs("w0:32", 3);
        errs("t1;r0:40;", 6);
        errs("t1;t60", 4);
        errs("w1:1=1;w2:32=1;", 10);
        errs("r0:32;x", 3);
        errs("t0;t1;", 1);
    }

    private static void outOfRangeWhateverFollows() {
        Check.about("Text", OUT_OF_RANGE);
        for (int b = 0; b <= 127; b++) {
            char sign = (char) b;
            boolean digit = DIGITS.indexOf(b) >= 0;
            errs("r0:32" + sign, digit ? 5 : 3);
            errs("w2:32" + sign, digit ? 5 : 3);
            errs("w2:99" + sign + "1;", digit ? 5 : 3);
            errs("t51" + sign, digit ? 3 : 1);
            errs("t00" + sign, digit ? 3 : 1);
            errs("t0" + sign, digit && sign != '0' ? 3 : 1);
        }
    }

    private static void append() {
        Check.about("Promise 20", "Appends a byte to the text.");
        CacheDiary x = new CacheDiary();
        x.append('t');
        x.append('1');
        x.append(';');
        Check.due("in their order", 1, () -> x.carryOut());
        Check.about("Promise 20", "Returns the new length of the text.");
        CacheDiary y = new CacheDiary();
        for (int length = 1; length <= 100; length++) {
            int b = length + 27;
            Check.due("length " + length, length, () -> y.append(b));
        }
        Check.about("Promise 20", "`value`: the byte, 0 to 127");
        Check.due("a hundred", 100, () -> y.clearText());
        for (int b = 0; b <= 127; b++) {
            int value = b;
            Check.due("the byte " + b, b % 100 + 1, () -> y.append(value));
            if (b == 99) {
                y.clearText();
            }
        }
        Check.noState("append is not undoable", () -> y.undo());
    }

    private static void appendRefused() {
        CacheDiary x = new CacheDiary();
        Check.about("Promise 20", "Throws `IllegalArgumentException` if value is out of range");
        for (int far : new int[] {-1, 128, 255, 't' + 256, Integer.MIN_VALUE, Integer.MAX_VALUE}) {
            Check.noArgument("value " + far, () -> x.append(far));
        }
        Check.about("Promise 20", "Throws `IllegalStateException` if the text has 100 bytes");
        type(x, times(33, "t1;"));
        Check.due("the last byte", 100, () -> x.append('t'));
        Check.noState("one more", () -> x.append('t'));
        Check.noState("one more", () -> x.append(0));
        Check.noArgument("the value is told first", () -> x.append(128));
        Check.noArgument("the value is told first", () -> x.append(-1));
        Check.due("the length stays", 100, () -> x.clearText());
        Check.due("room again", 1, () -> x.append('t'));
    }

    private static void clearText() {
        Check.about("Promise 21", "Returns the length that it had.");
        CacheDiary x = new CacheDiary();
        Check.due("a new one", 0, () -> x.clearText());
        x.append('x');
        x.append('y');
        Check.due("two", 2, () -> x.clearText());
        Check.due("again", 0, () -> x.clearText());
        type(x, times(33, "t1;") + "t");
        Check.due("a hundred", 100, () -> x.clearText());
        Check.about("Promise 21", "Empties the text.");
        Check.due("nothing to carry out", 0, () -> x.carryOut());
        Check.due("from the start again", 1, () -> x.append('t'));
        type(x, "t5;");
        Check.due("nothing of the old text", 1, () -> x.carryOut());
        number("five ticks", x, 4, 5);
        undone("clearText is not undoable", x, 1);
    }

    private static void carryOut() {
        Check.about("Promise 22", "Carries out the orders of the text");
        CacheDiary x = new CacheDiary();
        type(x, "w2:07=099;t1;r0:7;t01;t50;");
        Check.due("all", 5, () -> x.carryOut());
        numbers("all", x, 3, 4, 4, 1, 52, 4, 0, 2, 0, 0, 0, 1, 0, 2);
        entryIs("the write", x, 1, 2, 7, 1, 99, 1, 0);
        entryIs("the read", x, 0, 0, 7, 0, 99, 3, 1);
        Check.about("Promise 22", "The text stays as it is.");
        Check.due("once more", 5, () -> x.carryOut());
        number("once more", x, 4, 104);
        Check.due("its length", 26, () -> x.clearText());
        Check.about("Promise 22", "Returns the number of orders that are carried out");
        type(x, times(33, "t1;"));
        Check.due("the most", 33, () -> x.carryOut());
        CacheDiary y = machine(6, 1, 1);
        type(y, "w0:0=0;w1:1=1;w2:2=2;w3:3=3;w4:4=4;w5:5=5;t1;");
        Check.due("one of each cache", 7, () -> y.carryOut());
        number("all are served", y, 13, 6);
    }

    private static void carryOutUpToAnException() {
        Check.about("Promise 22", "up to the first one that would throw an exception (that one is not carried out).");
        CacheDiary x = new CacheDiary();
        type(x, "r0:1;r1:1;r0:2;t1;");
        Check.due("a cache that has a pending request, read", 2, () -> x.carryOut());
        pendingIs("its request stays", x, 0, 1, -1, 0);
        number("none of the orders behind it", x, 4, 0);
        type(x, "t1;w2:4=4;w1:0=0;r0:5;t9;");
        Check.due("a cache that has a pending request, write", 2, () -> x.carryOut());
        pendingIs("its request stays", x, 1, 1, -1, 1);
        number("only the first tick", x, 4, 1);
        pendingIs("none of the orders behind it", x, 0, -1, -1, -1);
        x.pass(1);
        Check.due("nothing is pending any more", 5, () -> x.carryOut());
        CacheDiary y = machine(2, 4, 4);
        type(y, "t1;r2:1;t1;");
        Check.due("a cache that a machine of two has not", 1, () -> y.carryOut());
        type(y, "w5:1=1;t1;");
        Check.due("as the first order", 0, () -> y.carryOut());
        number("the tick behind it does not pass", y, 4, 1);
        CacheDiary z = machine(6, 4, 4);
        type(z, "w5:1=1;t1;");
        Check.due("a cache that a machine of six has", 2, () -> z.carryOut());
        answers("r2:0;", 1);
        answers("r3:0;", 0);
        answers("w5:0=0;", 0);
    }

    private static void carryOutUpToTheLastTime() {
        Check.about("Promise 22", "up to the first one that would throw an exception (that one is not carried out).");
        CacheDiary x = atTime99950();
        type(x, "t49;t02;t01;");
        Check.due("the time 100001", 1, () -> x.carryOut());
        number("none behind it", x, 4, 99999);
        type(x, "t1;r0:0;t1;r1:1;");
        Check.due("the time 100000", 2, () -> x.carryOut());
        number("the last time", x, 4, 100000);
        pendingIs("asked for at the last time", x, 0, 0, -1, 0);
        pendingIs("none behind it", x, 1, -1, -1, -1);
        CacheDiary y = atTime99950();
        type(y, "t50;");
        Check.due("to the last time at once", 1, () -> y.carryOut());
        Check.due("no more", 0, () -> y.carryOut());
    }

    private static void carryOutIsUndoable() {
        Check.about("Promise 22", "Undoable (one saved state, also if no order is carried out), if there is no syntax error.");
        CacheDiary x = new CacheDiary();
        type(x, "r0:1;t1;w1:1=5;t3;");
        Check.due("four orders", 4, () -> x.carryOut());
        undone("one state", x, 0);
        number("before them", x, 4, 0);
        number("before them", x, 12, 0);
        CacheDiary y = new CacheDiary();
        Check.due("no orders", 0, () -> y.carryOut());
        undone("no orders", y, 0);
        type(y, "r3:1;t1;");
        Check.due("the first one would throw", 0, () -> y.carryOut());
        undone("the first one would throw", y, 0);
        type(y, "t1;t");
        Check.due("a syntax error", -14, () -> y.carryOut());
        Check.noState("no saved state", () -> y.undo());
    }

    private static void carryOutWithAnError() {
        Check.about("Promise 22", "-10 minus the syntax error position if there is a syntax error (then nothing changes).");
        CacheDiary x = new CacheDiary();
        run(x, "w0:5=1;t1;r1:5;");
        type(x, "t1;r0:5;x");
        long before = x.digest();
        Check.due("behind two orders", -18, () -> x.carryOut());
        Check.due("nothing changes", before, () -> x.digest());
        type(x, "r1:6;r5:1;t0;");
        Check.due("behind orders that would throw", -21, () -> x.carryOut());
        Check.due("the text stays", -21, () -> x.carryOut());
        pendingIs("as before", x, 1, 5, -1, 0);
        type(x, "x");
        Check.due("at the first byte", -10, () -> x.carryOut());
        type(x, times(33, "t1;") + "t");
        Check.due("behind the last byte", -110, () -> x.carryOut());
        number("as before", x, 4, 1);
        undone("as before", x, 0);
    }
}
