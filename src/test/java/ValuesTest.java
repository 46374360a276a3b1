/** Each sentence of the promises 9 to 13, the values. */
public final class ValuesTest extends Play {
    public static void main(String[] args) {
        copy();
        copyUsedLater();
        copyRefused();
        line();
        lastWritten();
        lineRefused();
        pending();
        pendingRefused();
        entry();
        entryRefused();
        value();
        valueCounts();
        valueRefused();
        Check.close();
    }

    private static void copy() {
        Check.about("Promise 9", "0 1 for a shared copy or 2 for an owned one, 1 its value, 2 its slot, 3 how many copies of"
            + " this cache were used later");
        CacheDiary x = machine(6, 8, 16);
        run(x, "w5:31=999;t1;r0:0;t1;");
        copyIs("owned", x, 5, 31, 2, 999, 0, 0);
        copyIs("shared", x, 0, 0, 1, 0, 0, 0);
        Check.about("Promise 9", "for what = 0, 0 if there is no copy; otherwise NONE then.");
        noCopy("of a line of which another cache has one", x, 0, 31);
        noCopy("of a line of which nobody has one", x, 5, 1);
        x.drop(5, 31);
        noCopy("of a line that was thrown away", x, 5, 31);
    }

    private static void copyUsedLater() {
        Check.about("Promise 9", "3 how many copies of this cache were used later");
        CacheDiary x = machine(2, 8, 16);
        for (int line = 0; line < 8; line++) {
            serveRead(x, 1, 31 - line);
        }
        for (int line = 0; line < 8; line++) {
            copyIs("eight", x, 1, 31 - line, 1, 0, line, 7 - line);
        }
        serveRead(x, 1, 31);
        copyFact("used again", x, 1, 31, 3, 0);
        copyFact("the least recently used now", x, 1, 30, 3, 7);
        x.drop(1, 28);
        copyFact("one was thrown away that was used later", x, 1, 30, 3, 6);
        copyFact("one was thrown away that was used before", x, 1, 24, 3, 1);
        serveRead(x, 0, 30);
        copyFact("copies of the other cache do not count", x, 1, 30, 3, 6);
        copyFact("copies of the other cache do not count", x, 0, 30, 3, 0);
        CacheDiary y = machine(2, 3, 16);
        run(y, "r0:7;t1;r0:31;t1;r0:0;t1;");
        copyFact("the first and the last line", y, 0, 7, 3, 2);
        copyFact("the last line", y, 0, 31, 3, 1);
        copyFact("the first line", y, 0, 0, 3, 0);
    }

    private static void copyRefused() {
        CacheDiary x = new CacheDiary();
        Check.about("Promise 9", "Throws `IndexOutOfBoundsException` if there is no such cache or line");
        for (int far : new int[] {-1, 3, 6, Integer.MIN_VALUE, Integer.MAX_VALUE}) {
            Check.noIndex("cache " + far, () -> x.copy(far, 0, 0));
            Check.noIndex("cache " + far + " before what", () -> x.copy(far, 0, 4));
        }
        for (int far : new int[] {-1, 32, Integer.MIN_VALUE, Integer.MAX_VALUE}) {
            Check.noIndex("line " + far, () -> x.copy(0, far, 0));
            Check.noIndex("line " + far + " before what", () -> x.copy(0, far, -1));
        }
        Check.about("Promise 9", "Throws `IllegalArgumentException` if what is out of range");
        serveRead(x, 0, 0);
        for (int far : new int[] {-1, 4, Integer.MIN_VALUE, Integer.MAX_VALUE}) {
            Check.noArgument("what " + far, () -> x.copy(0, 0, far));
            Check.noArgument("what " + far + " without a copy", () -> x.copy(2, 31, far));
        }
    }

    private static void line() {
        Check.about("Promise 10", "0 its value in the memory, 1 the value of the write to it that was served last (0 if none"
            + " was), 2 the cache that owns a copy (NONE if none does), 3 the set of caches that share it (bit c for the cache"
            + " c), 4 1 if there is a page about it, otherwise 0, 5 the owner of which the page tells (NONE if none), 6 the"
            + " set of caches of which it tells that they share it, 7 1 if it is marked as torn, otherwise 0");
        CacheDiary x = machine(6, 4, 4);
        run(x, "w5:31=12;t1;");
        lineIs("owned", x, 31, 0, 12, 5, 0, 1, 5, 0, 0);
        run(x, "r0:31;t1;");
        lineIs("shared", x, 31, 12, 12, -1, 33, 1, -1, 33, 0);
        run(x, "w0:31=13;t1;");
        lineIs("owned by the cache 0", x, 31, 12, 13, 0, 0, 1, 0, 0, 0);
        x.drop(0, 31);
        lineIs("a page that tells of none", x, 31, 13, 13, -1, 0, 1, -1, 0, 0);
        Check.about("Promise 10", "NONE for what = 5 and 6 without a page.");
        lineIs("nothing yet", x, 0, 0, 0, -1, 0, 0, -1, -1, 0);
        run(x, "w3:0=1;t1;r1:1;t1;r4:1;t1;");
        x.tear(0);
        x.tear(1);
        x.tear(31);
        lineIs("owned, and torn", x, 0, 0, 1, 3, 0, 0, -1, -1, 1);
        lineIs("shared, and torn", x, 1, 0, 0, -1, 18, 0, -1, -1, 1);
        lineIs("torn without a copy", x, 31, 13, 13, -1, 0, 0, -1, -1, 0);
    }

    private static void lastWritten() {
        Check.about("Promise 10", "1 the value of the write to it that was served last (0 if none was)");
        CacheDiary x = new CacheDiary();
        lineFact("none", x, 4, 1, 0);
        x.write(0, 4, 999);
        lineFact("none was served", x, 4, 1, 0);
        x.pass(1);
        lineFact("a miss", x, 4, 1, 999);
        serveWrite(x, 0, 4, 998);
        lineFact("a hit", x, 4, 1, 998);
        run(x, "r1:4;t1;r0:5;t1;");
        lineFact("a read is none", x, 4, 1, 998);
        serveWrite(x, 2, 4, 0);
        lineFact("the value 0", x, 4, 1, 0);
        serveWrite(x, 2, 4, 7);
        x.drop(2, 4);
        lineFact("without a copy", x, 4, 1, 7);
        lineFact("of another line", x, 5, 1, 0);
        run(x, "w0:4=1;w1:4=2;w2:4=3;");
        x.pass(1);
        Check.due("in a race, the one that was served", x.entry(0, 3), () -> x.line(4, 1));
    }

    private static void lineRefused() {
        CacheDiary x = new CacheDiary();
        Check.about("Promise 10", "Throws `IndexOutOfBoundsException` if there is no such line (0 to 31)");
        Check.due("the lowest", 0, () -> x.line(0, 0));
        Check.due("the highest", 0, () -> x.line(31, 0));
        for (int far : new int[] {-1, 32, Integer.MIN_VALUE, Integer.MAX_VALUE}) {
            Check.noIndex("line " + far, () -> x.line(far, 0));
            Check.noIndex("line " + far + " before what", () -> x.line(far, 8));
        }
        Check.about("Promise 10", "Throws `IllegalArgumentException` if what is out of range");
        for (int far : new int[] {-1, 8, Integer.MIN_VALUE, Integer.MAX_VALUE}) {
            Check.noArgument("what " + far, () -> x.line(31, far));
        }
    }

    private static void pending() {
        Check.about("Promise 11", "0 its line, 1 the value that it writes (NONE for a read), 2 how often it was put off");
        CacheDiary x = new CacheDiary();
        x.write(0, 31, 0);
        x.write(1, 31, 999);
        x.read(2, 31);
        pendingIs("the lowest value", x, 0, 31, 0, 0);
        pendingIs("the highest value", x, 1, 31, 999, 0);
        pendingIs("a read", x, 2, 31, -1, 0);
        x.pass(1);
        pendingIs("put off", x, 1, 31, 999, 1);
        pendingIs("put off", x, 2, 31, -1, 1);
        x.pass(1);
        pendingIs("put off twice", x, 2, 31, -1, 2);
        x.takeBack(2);
        x.read(2, 0);
        pendingIs("a new request was never put off", x, 2, 0, -1, 0);
        Check.about("Promise 11", "Returns that value; NONE if the cache has none.");
        pendingIs("served", x, 0, -1, -1, -1);
        pendingIs("served after it was put off", x, 1, -1, -1, -1);
        x.takeBack(2);
        pendingIs("taken back", x, 2, -1, -1, -1);
        CacheDiary y = new CacheDiary();
        pendingIs("never asked for", y, 0, -1, -1, -1);
        run(y, "r0:5;t1;r0:5;");
        pendingIs("a hit is pending, too", y, 0, 5, -1, 0);
    }

    private static void pendingRefused() {
        CacheDiary x = new CacheDiary();
        Check.about("Promise 11", "Throws `IndexOutOfBoundsException` if there is no such cache");
        for (int far : new int[] {-1, 3, 6, Integer.MIN_VALUE, Integer.MAX_VALUE}) {
            Check.noIndex("cache " + far, () -> x.pending(far, 0));
            Check.noIndex("cache " + far + " before what", () -> x.pending(far, 3));
        }
        Check.about("Promise 11", "Throws `IllegalArgumentException` if what is out of range");
        x.read(2, 0);
        for (int far : new int[] {-1, 3, Integer.MIN_VALUE, Integer.MAX_VALUE}) {
            Check.noArgument("what " + far + " without a request", () -> x.pending(0, far));
            Check.noArgument("what " + far, () -> x.pending(2, far));
        }
    }

    private static void entry() {
        Check.about("Promise 12", "`index`: 0 for the latest one, and so on");
        CacheDiary x = machine(6, 1, 1);
        run(x, "w5:31=999;t1;r0:31;t1;w5:0=0;t1;");
        entryIs("the oldest", x, 2, 5, 31, 1, 999, 1, 0);
        entryIs("the latest", x, 0, 5, 0, 1, 0, 1, 2);
        Check.about("Promise 12", "0 the cache, 1 the line, 2 0 for a read or 1 for a write, 3 the value that was read or"
            + " written, 4 all its messages (those of a copy that was thrown away for it, too), 5 the tick, that is the time"
            + " before it passed");
        entryIs("a read of an owned line", x, 1, 0, 31, 0, 999, 3, 1);
        // 5 caches are asked, and the owned copy of the line 0 makes room: 6.
        run(x, "t50;r5:31;t1;");
        entryIs("all are asked, and a copy is thrown away", x, 0, 5, 31, 0, 999, 6, 53);
        run(x, "r5:31;t1;");
        entryIs("a hit", x, 0, 5, 31, 0, 999, 0, 54);
        run(x, "r1:31;t1;r2:31;t1;w3:0=5;t1;w3:31=7;t1;");
        // The page 31 was torn out by that of the line 0: 5 are asked, four share the line, and line 0 makes room.
        entryIs("the most of all", x, 0, 3, 31, 1, 7, 5 + 4 + 1, 58);
        CacheDiary y = atTime99950();
        run(y, "t49;r1:3;t1;");
        entryIs("the last tick", y, 0, 1, 3, 0, 0, 1, 99999);
    }

    private static void entryRefused() {
        CacheDiary x = new CacheDiary();
        Check.about("Promise 12", "Throws `IndexOutOfBoundsException` if not so many are kept");
        Check.noIndex("none is kept", () -> x.entry(0, 0));
        serveRead(x, 0, 0);
        Check.due("one is kept", 0, () -> x.entry(0, 0));
        Check.noIndex("one is kept, the second", () -> x.entry(1, 0));
        for (int far : new int[] {-1, 12, Integer.MIN_VALUE, Integer.MAX_VALUE}) {
            Check.noIndex("index " + far, () -> x.entry(far, 0));
            Check.noIndex("index " + far + " before what", () -> x.entry(far, 6));
        }
        for (int i = 1; i < 12; i++) {
            serveRead(x, 0, 0);
            int kept = i;
            Check.due(i + 1 + " are kept", 0, () -> x.entry(kept, 0));
            Check.noIndex("one more than are kept", () -> x.entry(kept + 1, 0));
        }
        serveRead(x, 0, 0);
        Check.noIndex("thirteen were served", () -> x.entry(12, 0));
        Check.about("Promise 12", "Throws `IllegalArgumentException` if what is out of range");
        for (int far : new int[] {-1, 6, Integer.MIN_VALUE, Integer.MAX_VALUE}) {
            Check.noArgument("what " + far, () -> x.entry(0, far));
            Check.noArgument("what " + far + " of the oldest", () -> x.entry(11, far));
        }
    }

    private static final String NUMBERS = "0 the caches, 1 the slots of each, 2 the room of the diary, 3 the pages in it, 4"
        + " the time, 5 the messages so far, 6 the hits, 7 the misses, 8 the races, 9 how often all caches were asked, 10 the"
        + " pages torn out (also by tear()), 11 the values that went from copies to the memory, 12 the pending requests, 13"
        + " the entries in the log";

    private static void value() {
        Check.about("Promise 13", NUMBERS);
        CacheDiary x = machine(4, 1, 1);
        x.write(0, 1, 1);
        x.write(1, 1, 2);
        x.write(2, 2, 3);
        numbers("asked for", x, 4, 1, 1, 0, 0, 0, 0, 0, 0, 0, 0, 0, 3, 0);
        // Line 1 for the cache 0: 1; line 2 for the cache 2: 1, and the page of line 1 goes.
        x.pass(1);
        numbers("first tick", x, 4, 1, 1, 1, 1, 2, 0, 2, 1, 0, 1, 0, 1, 2);
        // Line 1 is marked: 3 are asked, and the owner answers: 2.
        x.pass(1);
        numbers("second tick", x, 4, 1, 1, 1, 2, 7, 0, 3, 1, 1, 2, 1, 0, 3);
        serveRead(x, 1, 1);
        numbers("a hit", x, 4, 1, 1, 1, 3, 7, 1, 3, 1, 1, 2, 1, 0, 4);
        x.tear(1);
        numbers("torn out by tear()", x, 4, 1, 1, 0, 3, 7, 1, 3, 1, 1, 3, 1, 0, 4);
        x.drop(1, 1);
        numbers("dropped", x, 4, 1, 1, 0, 3, 8, 1, 3, 1, 1, 3, 2, 0, 4);
    }

    private static void valueCounts() {
        Check.about("Promise 13", NUMBERS);
        CacheDiary x = machine(6, 8, 16);
        numbers("the largest machine", x, 6, 8, 16, 0, 0, 0, 0, 0, 0, 0, 0, 0, 0, 0);
        for (int line = 0; line < 16; line++) {
            serveWrite(x, line % 6, line, line);
        }
        numbers("sixteen pages", x, 6, 8, 16, 16, 16, 16, 0, 16, 0, 0, 0, 0, 0, 12);
        for (int cache = 0; cache < 6; cache++) {
            x.read(cache, 0);
        }
        number("six requests", x, 12, 6);
        // Time 16: 4, 5, 0, 1, 2, 3. The cache 4 misses, the cache 0 hits its copy, the others are put off.
        x.pass(1);
        numbers("four races", x, 6, 8, 16, 16, 17, 19, 1, 17, 4, 0, 0, 1, 4, 12);
        x.drop(4, 0);
        number("a shared copy brings no value to the memory", x, 11, 1);
        number("nor a message", x, 5, 19);
    }

    private static void valueRefused() {
        CacheDiary x = new CacheDiary();
        Check.about("Promise 13", "Throws `IllegalArgumentException` if what is out of range");
        Check.due("the lowest", 3, () -> x.value(0));
        Check.due("the highest", 0, () -> x.value(13));
        for (int far : new int[] {-1, 14, Integer.MIN_VALUE, Integer.MAX_VALUE}) {
            Check.noArgument("what " + far, () -> x.value(far));
        }
    }
}
