/** Each sentence of the promises 1 to 8, the calls of the machine. What a refused call leaves alone: StateTest. */
public final class MachineTest extends Play {
    public static void main(String[] args) {
        newObject();
        beginSizes();
        beginForgetsAll();
        beginTellsTheTime();
        read();
        readRefused();
        write();
        writeRefused();
        takeBack();
        takeBackRefused();
        pass();
        passRefused();
        passAtTheLastTime();
        drop();
        dropAsIfForItsSlot();
        dropRefused();
        tear();
        tearRefused();
        Check.close();
    }

    private static void newObject() {
        Check.about("Promise 1", "Creates a machine as told, with free slots and an empty diary, at the time 0.");
        numbers("new", new CacheDiary(), 3, 4, 4, 0, 0, 0, 0, 0, 0, 0, 0, 0, 0, 0);
        for (int line = 0; line < 32; line++) {
            CacheDiary x = new CacheDiary();
            lineIs("new", x, line, 0, 0, -1, 0, 0, -1, -1, 0);
            for (int cache = 0; cache < 3; cache++) {
                noCopy("new", x, cache, line);
            }
        }
        CacheDiary y = new CacheDiary();
        for (int cache = 0; cache < 3; cache++) {
            pendingIs("nothing is asked for", y, cache, -1, -1, -1);
            dropped("free slots", y, cache, -1);
        }
        torn("an empty diary", y, -1);
        Check.noIndex("an empty log", () -> y.entry(0, 0));
        Check.noState("no saved state", () -> y.undo());
        Check.due("an empty text", 0, () -> y.clearText());
        Check.about("Terms", "`NONE = -1`: There is no such thing.");
        Check.due("NONE", -1, () -> CacheDiary.NONE);
    }

    private static void beginSizes() {
        Check.about("Promise 2", "`caches`: 2 to 6");
        CacheDiary x = new CacheDiary();
        Check.due("the fewest", 0, () -> x.begin(2, 4, 4));
        Check.due("the most", 0, () -> x.begin(6, 4, 4));
        Check.about("Promise 2", "`slots`: 1 to 8");
        Check.due("the fewest", 0, () -> x.begin(3, 1, 4));
        Check.due("the most", 0, () -> x.begin(3, 8, 4));
        Check.about("Promise 2", "`pages`: 1 to 16");
        Check.due("the fewest", 0, () -> x.begin(3, 4, 1));
        Check.due("the most", 0, () -> x.begin(3, 4, 16));
        numbers("the last one", x, 3, 4, 16);
        Check.about("Promise 2", "Throws `IllegalArgumentException` if an argument is out of range");
        int[][] wrong = {{1, 4, 4}, {7, 4, 4}, {3, 0, 4}, {3, 9, 4}, {3, 4, 0}, {3, 4, 17}, {0, 4, 4}, {-2, 4, 4},
            {3, -1, 4}, {3, 4, -1}, {Integer.MIN_VALUE, 4, 4}, {3, Integer.MIN_VALUE, 4}, {3, 4, Integer.MIN_VALUE},
            {Integer.MAX_VALUE, 4, 4}, {3, Integer.MAX_VALUE, 4}, {3, 4, Integer.MAX_VALUE}, {1, 9, 17}};
        for (int[] w : wrong) {
            Check.noArgument("begin(" + w[0] + ", " + w[1] + ", " + w[2] + ")", () -> x.begin(w[0], w[1], w[2]));
        }
        numbers("after wrong ones", x, 3, 4, 16);
    }

    private static void beginForgetsAll() {
        Check.about("Promise 2", "Begins with another machine: all slots are free, the diary and the log are empty, nothing is"
            + " marked or pending, all values and counts are 0, the time is 0.");
        CacheDiary x = machine(2, 1, 1);
        run(x, "w0:3=5;w1:31=6;t1;r0:9;r1:3;t2;w0:3=7;r1:3;t1;r0:8;r1:8;t1;");
        for (int what = 3; what <= 13; what++) {
            int w = what;
            Check.due("before, value(" + w + ") is more than 0", true, () -> x.value(w) > 0);
        }
        Check.due("marked before", 1, () -> x.line(31, 7));
        x.append('r');
        x.begin(6, 8, 16);
        numbers("begun", x, 6, 8, 16, 0, 0, 0, 0, 0, 0, 0, 0, 0, 0, 0);
        for (int line = 0; line < 32; line++) {
            lineIs("begun", x, line, 0, 0, -1, 0, 0, -1, -1, 0);
        }
        for (int cache = 0; cache < 6; cache++) {
            noCopy("begun", x, cache, 3);
            noCopy("begun", x, cache, 8);
            pendingIs("begun", x, cache, -1, -1, -1);
            dropped("begun", x, cache, -1);
        }
        torn("begun", x, -1);
        Check.noIndex("the log is empty", () -> x.entry(0, 0));
        Check.due("nothing to serve", 0, () -> x.ticksToServe());
        Check.due("no hits", 0.0, () -> x.hitRate());
        run(x, "r0:3;t1;");
        copyIs("from the lowest slot on", x, 0, 3, 1, 0, 0, 0);
        entryIs("from the time 0 on", x, 0, 0, 3, 0, 0, 1, 0);
        Check.noIndex("the log has one entry", () -> x.entry(1, 0));
    }

    private static void beginTellsTheTime() {
        Check.about("Promise 2", "Returns the time that it was.");
        CacheDiary x = new CacheDiary();
        Check.due("at once", 0, () -> x.begin(3, 4, 4));
        x.pass(100);
        Check.due("after a hundred ticks", 100, () -> x.begin(3, 4, 4));
        Check.due("at once again", 0, () -> x.begin(3, 4, 4));
        CacheDiary y = atTime99950();
        y.pass(50);
        Check.due("at the last time", 100000, () -> y.begin(2, 1, 1));
        Check.due("time goes on from 0", 0, () -> y.pass(1));
        Check.about("Terms", "The saved state contains everything except the text.");
        x.append('t');
        x.begin(2, 1, 1);
        Check.due("begin leaves the text", 1, () -> x.clearText());
    }

    private static void read() {
        Check.about("Promise 3", "Makes a read the pending request of a cache.");
        CacheDiary x = new CacheDiary();
        x.read(2, 31);
        pendingIs("the highest", x, 2, 31, -1, 0);
        x.read(0, 0);
        pendingIs("the lowest", x, 0, 0, -1, 0);
        number("they are not served yet", x, 13, 0);
        number("they are pending", x, 12, 2);
        Check.about("Promise 3", "Returns 1 if it would be a hit now, otherwise 0.");
        CacheDiary y = new CacheDiary();
        Check.due("no copy", 0, () -> y.read(2, 31));
        y.pass(1);
        Check.due("a shared copy", 1, () -> y.read(2, 31));
        Check.due("a copy of another cache alone", 0, () -> y.read(1, 31));
        y.pass(1);
        serveWrite(y, 1, 31, 7);
        Check.due("an owned copy", 1, () -> y.read(1, 31));
        Check.due("a copy that was thrown away", 0, () -> y.read(2, 31));
        y.tear(31);
        y.takeBack(1);
        Check.due("an owned copy without a page", 1, () -> y.read(1, 31));
    }

    private static void readRefused() {
        CacheDiary x = new CacheDiary();
        Check.about("Promise 3", "Throws `IndexOutOfBoundsException` if there is no such cache or line");
        for (int far : new int[] {-1, 3, 6, Integer.MIN_VALUE, Integer.MAX_VALUE}) {
            Check.noIndex("cache " + far, () -> x.read(far, 0));
        }
        for (int far : new int[] {-1, 32, Integer.MIN_VALUE, Integer.MAX_VALUE}) {
            Check.noIndex("line " + far, () -> x.read(0, far));
        }
        Check.about("Promise 3", "Throws `IllegalStateException` if the cache has a pending request");
        x.read(2, 0);
        Check.noState("a read is pending", () -> x.read(2, 0));
        x.write(1, 0, 0);
        Check.noState("a write is pending", () -> x.read(1, 31));
        Check.noIndex("no such line is told first", () -> x.read(2, 32));
        Check.due("another cache", 0, () -> x.read(0, 0));
        x.takeBack(2);
        Check.due("none is pending any more", 0, () -> x.read(2, 0));
    }

    private static void write() {
        Check.about("Promise 4", "Makes a write the pending request of a cache.");
        CacheDiary x = new CacheDiary();
        x.write(2, 31, 999);
        pendingIs("the highest", x, 2, 31, 999, 0);
        x.write(0, 0, 0);
        pendingIs("the lowest", x, 0, 0, 0, 0);
        number("they are not served yet", x, 13, 0);
        Check.due("nor written", 0, () -> x.line(31, 1));
        Check.about("Promise 4", "Returns 1 if it would be a hit now, otherwise 0.");
        CacheDiary y = new CacheDiary();
        Check.due("no copy", 0, () -> y.write(2, 31, 1));
        y.pass(1);
        Check.due("an owned copy", 1, () -> y.write(2, 31, 2));
        Check.due("a copy of another cache alone", 0, () -> y.write(1, 31, 3));
        y.takeBack(1);
        y.pass(1);
        serveRead(y, 1, 31);
        Check.due("a shared copy", 0, () -> y.write(1, 31, 4));
        Check.due("a shared copy that was owned", 0, () -> y.write(2, 31, 5));
    }

    private static void writeRefused() {
        CacheDiary x = new CacheDiary();
        Check.about("Promise 4", "Throws `IndexOutOfBoundsException` if there is no such cache or line");
        for (int far : new int[] {-1, 3, 6, Integer.MIN_VALUE, Integer.MAX_VALUE}) {
            Check.noIndex("cache " + far, () -> x.write(far, 0, 0));
        }
        for (int far : new int[] {-1, 32, Integer.MIN_VALUE, Integer.MAX_VALUE}) {
            Check.noIndex("line " + far, () -> x.write(0, far, 0));
        }
        Check.about("Promise 4", "Throws `IllegalArgumentException` if value is out of range");
        for (int far : new int[] {-1, 1000, Integer.MIN_VALUE, Integer.MAX_VALUE}) {
            Check.noArgument("value " + far, () -> x.write(0, 0, far));
            Check.noIndex("no such cache is told before the value " + far, () -> x.write(3, 0, far));
            Check.noIndex("no such line is told before the value " + far, () -> x.write(0, 32, far));
        }
        Check.about("Promise 4", "Throws `IllegalStateException` if the cache has a pending request");
        x.write(2, 0, 0);
        Check.noState("a write is pending", () -> x.write(2, 0, 0));
        x.read(1, 0);
        Check.noState("a read is pending", () -> x.write(1, 31, 999));
        Check.noArgument("the value is told first", () -> x.write(2, 0, 1000));
        Check.noIndex("no such line is told first", () -> x.write(2, -1, 0));
        Check.due("another cache", 0, () -> x.write(0, 0, 0));
    }

    private static void takeBack() {
        Check.about("Promise 5", "Takes the pending request of a cache back.");
        CacheDiary x = new CacheDiary();
        x.write(0, 31, 4);
        x.read(2, 31);
        x.takeBack(0);
        pendingIs("taken back", x, 0, -1, -1, -1);
        pendingIs("of another cache", x, 2, 31, -1, 0);
        Check.due("only the other one is served", 1, () -> x.pass(1));
        Check.due("nothing was written", 0, () -> x.line(31, 1));
        CacheDiary y = new CacheDiary();
        run(y, "r0:5;r1:5;t1;");
        Check.due("one that was put off", 5, () -> y.takeBack(1));
        number("its race stays counted", y, 8, 1);
        Check.due("nothing to serve", 0, () -> y.pass(1));
        Check.about("Promise 5", "Returns its line.");
        x.read(0, 0);
        Check.due("the lowest", 0, () -> x.takeBack(0));
        x.write(2, 31, 999);
        Check.due("the highest", 31, () -> x.takeBack(2));
    }

    private static void takeBackRefused() {
        CacheDiary x = new CacheDiary();
        Check.about("Promise 5", "Throws `IndexOutOfBoundsException` if there is no such cache");
        for (int far : new int[] {-1, 3, 6, Integer.MIN_VALUE, Integer.MAX_VALUE}) {
            Check.noIndex("cache " + far, () -> x.takeBack(far));
        }
        Check.about("Promise 5", "Throws `IllegalStateException` if it has none");
        Check.noState("nothing was asked for", () -> x.takeBack(0));
        x.read(2, 0);
        Check.noState("only another cache has one", () -> x.takeBack(0));
        x.takeBack(2);
        Check.noState("it was taken back", () -> x.takeBack(2));
        serveRead(x, 2, 0);
        Check.noState("it was served", () -> x.takeBack(2));
    }

    private static void pass() {
        Check.about("Promise 6", "Lets ticks pass.");
        CacheDiary x = new CacheDiary();
        x.pass(1);
        number("one", x, 4, 1);
        x.pass(100);
        number("a hundred", x, 4, 101);
        Check.about("Promise 6", "Returns the requests that were served in them.");
        Check.due("none is asked for", 0, () -> x.pass(1));
        x.read(0, 1);
        x.read(1, 1);
        x.write(2, 2, 2);
        // Time 102: 0, 1, 2; the cache 1 is put off.
        Check.due("two of three in one tick", 2, () -> x.pass(1));
        Check.due("the third in many", 1, () -> x.pass(100));
        number("and the time went on", x, 4, 203);
        CacheDiary y = machine(6, 4, 4);
        for (int cache = 0; cache < 6; cache++) {
            y.write(cache, 5, cache);
        }
        Check.due("five in five ticks", 5, () -> y.pass(5));
        Check.due("the sixth", 1, () -> y.pass(1));
        CacheDiary z = machine(6, 4, 4);
        for (int cache = 0; cache < 6; cache++) {
            z.write(cache, cache, cache);
        }
        Check.due("six in one tick", 6, () -> z.pass(1));
    }

    private static void passRefused() {
        Check.about("Promise 6", "`ticks`: 1 to 100");
        CacheDiary x = new CacheDiary();
        Check.due("the fewest", 0, () -> x.pass(1));
        Check.due("the most", 0, () -> x.pass(100));
        Check.about("Promise 6", "Throws `IllegalArgumentException` if ticks is out of range");
        for (int far : new int[] {0, -1, 101, Integer.MIN_VALUE, Integer.MAX_VALUE}) {
            Check.noArgument("ticks " + far, () -> x.pass(far));
        }
    }

    private static void passAtTheLastTime() {
        Check.about("Promise 6", "Throws `IllegalStateException` if the time would be greater than 100000");
        CacheDiary x = atTime99950();
        Check.noState("100001", () -> x.pass(51));
        Check.noState("100050", () -> x.pass(100));
        Check.noArgument("ticks out of range is told first", () -> x.pass(101));
        Check.due("99999", 0, () -> x.pass(49));
        Check.noState("100001 again", () -> x.pass(2));
        x.read(1, 1);
        Check.due("100000", 1, () -> x.pass(1));
        number("the last time", x, 4, 100000);
        entryIs("the last tick", x, 0, 1, 1, 0, 0, 1, 99999);
        Check.noState("one more", () -> x.pass(1));
        Check.noArgument("none at the last time", () -> x.pass(0));
        number("the last time still", x, 4, 100000);
        Check.due("other calls go on", 0, () -> x.read(0, 0));
        undone("it can be undone", x, 3);
        undone("and once more", x, 2);
        number("before the last tick", x, 4, 99999);
        Check.due("it comes again", 1, () -> x.pass(1));
    }

    private static void drop() {
        Check.about("Promise 7", "Returns the messages.");
        CacheDiary x = new CacheDiary();
        run(x, "w0:8=70;t1;w0:9=71;t1;r0:10;t1;");
        Check.due("a shared copy", 0, () -> x.drop(0, 10));
        number("no message", x, 5, 3);
        Check.due("an owned copy", 1, () -> x.drop(0, 8));
        numbers("one message", x, 3, 4, 4, 3, 3, 4, 0, 3, 0, 0, 0, 1, 0, 3);
        x.tear(9);
        Check.due("an owned copy without a page", 1, () -> x.drop(0, 9));
        number("a message again", x, 5, 5);
        number("its value went to the memory", x, 11, 2);
    }

    private static void dropAsIfForItsSlot() {
        Check.about("Promise 7", "Throws away the copy of a line that a cache has, as if it needed its slot.");
        CacheDiary x = machine(3, 4, 2);
        run(x, "w0:31=70;t1;r0:0;t1;");
        x.drop(0, 31);
        noCopy("an owned copy", x, 0, 31);
        lineIs("an owned copy", x, 31, 70, 70, -1, 0, 1, -1, 0, 0);
        torn("no use of the page", x, 31);
        run(x, "r1:0;t1;");
        x.drop(0, 0);
        noCopy("a shared copy", x, 0, 0);
        lineIs("a shared copy", x, 0, 0, 0, -1, 2, 1, -1, 2, 0);
        copyIs("of another cache", x, 1, 0, 1, 0, 0, 0);
        run(x, "r0:0;r2:0;t2;");
        // Slots: the cache 0 has the line 0 in the lowest one, although the copy of the line 31 had it.
        copyIs("the lowest slot is free", x, 0, 0, 1, 0, 0, 0);
        x.tear(0);
        x.drop(1, 0);
        x.drop(0, 0);
        x.drop(2, 0);
        lineIs("a mark stays", x, 0, 0, 0, -1, 0, 0, -1, -1, 1);
        number("drop tears no page out", x, 10, 1);
        number("nor is it a miss or a hit", x, 7, 5);
        number("nor is it a miss or a hit", x, 6, 0);
    }

    private static void dropRefused() {
        CacheDiary x = new CacheDiary();
        Check.about("Promise 7", "Throws `IndexOutOfBoundsException` if there is no such cache or line");
        for (int far : new int[] {-1, 3, 6, Integer.MIN_VALUE, Integer.MAX_VALUE}) {
            Check.noIndex("cache " + far, () -> x.drop(far, 0));
        }
        for (int far : new int[] {-1, 32, Integer.MIN_VALUE, Integer.MAX_VALUE}) {
            Check.noIndex("line " + far, () -> x.drop(0, far));
        }
        Check.about("Promise 7", "Throws `IllegalStateException` if the cache has no copy of the line");
        Check.noState("none yet", () -> x.drop(0, 0));
        serveRead(x, 1, 0);
        Check.noState("only another cache has one", () -> x.drop(0, 0));
        Check.noState("only of another line", () -> x.drop(1, 1));
        x.drop(1, 0);
        Check.noState("it was dropped", () -> x.drop(1, 0));
        x.read(0, 0);
        Check.noState("it is only asked for", () -> x.drop(0, 0));
        run(x, "t1;w1:0=1;t1;");
        Check.noState("another cache threw it away", () -> x.drop(0, 0));
    }

    private static void tear() {
        Check.about("Promise 8", "Tears out the page about a line: the line is marked as torn if the page tells of any copy.");
        CacheDiary x = machine(4, 4, 4);
        run(x, "r0:0;t1;r1:0;t1;r3:0;t1;w2:31=1;t1;r2:10;t1;");
        x.drop(2, 10);
        x.tear(0);
        lineIs("shared copies", x, 0, 0, 0, -1, 11, 0, -1, -1, 1);
        x.tear(31);
        lineIs("an owned copy", x, 31, 0, 1, 2, 0, 0, -1, -1, 1);
        x.tear(10);
        lineIs("no copy", x, 10, 0, 0, -1, 0, 0, -1, -1, 0);
        numbers("three are torn", x, 4, 4, 4, 0, 5, 5, 0, 5, 0, 0, 3);
        copyIs("the copies stay", x, 2, 31, 2, 1, 0, 0);
        Check.about("Promise 8", "Returns the number of copies of which the page told.");
        undone("three pages again", x, 3);
        undone("three pages again", x, 2);
        undone("three pages again", x, 1);
        Check.due("three shared copies", 3, () -> x.tear(0));
        Check.due("an owned copy", 1, () -> x.tear(31));
        Check.due("no copy", 0, () -> x.tear(10));
        CacheDiary y = machine(6, 4, 4);
        run(y, "r0:7;r1:7;r2:7;r3:7;r4:7;r5:7;t6;");
        Check.due("six shared copies", 6, () -> y.tear(7));
    }

    private static void tearRefused() {
        CacheDiary x = new CacheDiary();
        Check.about("Promise 8", "Throws `IndexOutOfBoundsException` if there is no such line (0 to 31)");
        for (int far : new int[] {-1, 32, Integer.MIN_VALUE, Integer.MAX_VALUE}) {
            Check.noIndex("line " + far, () -> x.tear(far));
        }
        Check.about("Promise 8", "Throws `IllegalStateException` if there is no page about the line");
        Check.noState("none yet", () -> x.tear(0));
        x.read(0, 0);
        Check.noState("its line is only asked for", () -> x.tear(0));
        x.pass(1);
        Check.noState("another line", () -> x.tear(1));
        x.tear(0);
        Check.noState("it was torn out", () -> x.tear(0));
        serveRead(x, 0, 0);
        Check.noState("a hit makes none", () -> x.tear(0));
        run(x, "r1:1;t1;r1:2;t1;r1:3;t1;r1:4;t1;r1:5;t1;");
        Check.noState("the full diary tore it out", () -> x.tear(1));
    }
}
