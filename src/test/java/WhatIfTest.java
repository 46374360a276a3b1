/** Each sentence of the promises 14 to 19, what if. */
public final class WhatIfTest extends Play {
    public static void main(String[] args) {
        costOfAHit();
        costOfAPage();
        costOfTheOthersCopies();
        costOfASlot();
        costIsWhatIsServed();
        costRefused();
        nextTorn();
        nextTornOfOnePage();
        nextDropped();
        nextDroppedRefused();
        ticksToServe();
        ticksToServeInTurn();
        ticksToServeAtTheLastTime();
        cheapest();
        cheapestRefused();
        hitRate();
        nothingChanges();
        Check.close();
    }

    private static final String COST = "Tells the messages of a request if it was served now.";

    private static void cost(String name, CacheDiary x, int cache, int line, int ofRead, int ofWrite) {
        Check.due(name + ", cost(" + cache + ", " + line + ", false)", ofRead, () -> x.cost(cache, line, false));
        Check.due(name + ", cost(" + cache + ", " + line + ", true)", ofWrite, () -> x.cost(cache, line, true));
    }

    private static void costOfAHit() {
        Check.about("Promise 14", COST);
        CacheDiary x = machine(6, 1, 1);
        run(x, "w0:31=1;t1;");
        cost("an owned copy", x, 0, 31, 0, 0);
        x.tear(31);
        cost("an owned copy without a page", x, 0, 31, 0, 0);
        run(x, "r1:31;t1;");
        cost("a shared copy", x, 1, 31, 0, 2);
        x.tear(31);
        cost("a shared copy without a page", x, 1, 31, 0, 6);
        x.read(1, 0);
        cost("what is pending does not matter", x, 1, 31, 0, 6);
        x.write(0, 31, 1);
        cost("nor a race", x, 2, 31, 5, 7);
    }

    private static void costOfAPage() {
        Check.about("Promise 14", COST);
        for (int n = 2; n <= 6; n++) {
            CacheDiary x = machine(n, 4, 4);
            cost("no page yet", x, n - 1, 31, 1, 1);
            run(x, "r0:31;t1;");
            x.drop(0, 31);
            cost("a page that tells of none", x, n - 1, 31, 1, 1);
            x.tear(31);
            cost("no page any more", x, n - 1, 31, 1, 1);
            run(x, "r0:31;t1;");
            x.tear(31);
            x.drop(0, 31);
            cost(n + " caches, marked, but no copy", x, n - 1, 31, n - 1, n - 1);
            cost(n + " caches, marked, but no copy", x, 0, 31, n - 1, n - 1);
        }
        CacheDiary y = machine(2, 8, 1);
        run(y, "r0:1;t1;");
        cost("tearing a page out of a full diary costs nothing", y, 0, 2, 1, 1);
    }

    private static void costOfTheOthersCopies() {
        Check.about("Promise 14", COST);
        CacheDiary x = machine(4, 4, 4);
        run(x, "w0:0=1;t1;");
        cost("another cache owns a copy", x, 1, 0, 3, 3);
        run(x, "r1:0;t1;r2:0;t1;");
        cost("two others share it", x, 0, 0, 0, 3);
        cost("three others share it", x, 3, 0, 1, 4);
        x.tear(0);
        cost("marked, three others share it", x, 3, 0, 3, 6);
        cost("marked, two others share it", x, 0, 0, 0, 5);
        run(x, "w3:1=1;t1;");
        x.tear(1);
        cost("marked, another cache owns a copy", x, 0, 1, 5, 5);
    }

    private static void costOfASlot() {
        Check.about("Promise 14", COST);
        CacheDiary x = machine(3, 2, 8);
        run(x, "w0:1=1;t1;");
        cost("a free slot", x, 0, 5, 1, 1);
        run(x, "r0:2;t1;");
        cost("an owned copy must go", x, 0, 5, 2, 2);
        run(x, "r0:1;t1;");
        cost("a shared copy must go", x, 0, 5, 1, 1);
        cost("of a cache with free slots", x, 1, 5, 1, 1);
        cost("a shared copy that becomes the owned one needs no slot", x, 0, 2, 0, 1);
        run(x, "r0:2;t1;w1:7=1;t1;");
        cost("a shared copy needs no slot although an owned one is next", x, 0, 2, 0, 1);
        cost("another cache owns it, and an owned copy must go", x, 0, 7, 4, 4);
    }

    private static void costIsWhatIsServed() {
        Check.about("Promise 14", COST);
        CacheDiary x = machine(3, 1, 1);
        for (int step = 0; step < 40; step++) {
            int cache = step * 7 % 3;
            int line = step * 5 % 4;
            boolean write = step % 3 == 0;
            int told = x.cost(cache, line, write);
            if (write) {
                serveWrite(x, cache, line, step);
            } else {
                serveRead(x, cache, line);
            }
            sent("step " + step, x, told);
        }
    }

    private static void costRefused() {
        Check.about("Promise 14", "Throws `IndexOutOfBoundsException` if there is no such cache or line");
        CacheDiary x = new CacheDiary();
        Check.due("the lowest", 1, () -> x.cost(0, 0, false));
        Check.due("the highest", 1, () -> x.cost(2, 31, true));
        for (int far : new int[] {-1, 3, 6, Integer.MIN_VALUE, Integer.MAX_VALUE}) {
            Check.noIndex("cache " + far, () -> x.cost(far, 0, false));
            Check.noIndex("cache " + far + ", write", () -> x.cost(far, 0, true));
        }
        for (int far : new int[] {-1, 32, Integer.MIN_VALUE, Integer.MAX_VALUE}) {
            Check.noIndex("line " + far, () -> x.cost(0, far, false));
            Check.noIndex("line " + far + ", write", () -> x.cost(0, far, true));
        }
    }

    private static void nextTorn() {
        Check.about("Promise 15", "Returns the line of the page that was used least recently; NONE if the diary is not full.");
        CacheDiary x = machine(2, 8, 2);
        torn("empty", x, -1);
        run(x, "r0:31;t1;");
        torn("one less than full", x, -1);
        run(x, "r0:0;t1;");
        torn("full", x, 31);
        run(x, "r0:31;t1;");
        torn("a hit is no use of the page", x, 31);
        run(x, "r1:31;t1;");
        torn("a miss is one", x, 0);
        x.drop(0, 0);
        torn("drop is none", x, 0);
        run(x, "r1:7;t1;");
        torn("the next one", x, 31);
        lineFact("the other one was torn out", x, 0, 4, 0);
        x.tear(31);
        torn("room again", x, -1);
        run(x, "r1:8;t1;");
        torn("full again", x, 7);
        undone("before it", x, 3);
        torn("as before", x, -1);
        undone("before the tear", x, 2);
        torn("full as before", x, 31);
    }

    private static void nextTornOfOnePage() {
        Check.about("Promise 15", "Tells the line whose page would be torn out next.");
        CacheDiary x = machine(2, 8, 1);
        for (int line = 31; line > 20; line--) {
            int next = x.nextTorn();
            serveRead(x, 0, line);
            torn("the only page", x, line);
            if (next >= 0) {
                lineIs("told before", x, next, 0, 0, -1, 1, 0, -1, -1, 1);
            }
        }
        CacheDiary y = machine(2, 1, 16);
        for (int line = 0; line < 16; line++) {
            torn("not full", y, -1);
            serveRead(y, 0, line);
        }
        for (int line = 16; line < 32; line++) {
            torn("sixteen", y, line - 16);
            serveRead(y, 1, line);
            lineFact("torn out", y, line - 16, 4, 0);
        }
    }

    private static void nextDropped() {
        Check.about("Promise 16", "Returns the line of the copy that it used least recently; NONE if it has a free slot.");
        CacheDiary x = machine(2, 2, 16);
        dropped("all are free", x, 0, -1);
        run(x, "r0:31;t1;");
        dropped("one is free", x, 0, -1);
        run(x, "w0:0=1;t1;");
        dropped("none is free", x, 0, 31);
        dropped("of the other cache", x, 1, -1);
        run(x, "r0:31;t1;");
        dropped("a hit uses a copy", x, 0, 0);
        run(x, "r0:7;t1;");
        noCopy("thrown away", x, 0, 0);
        dropped("the next one", x, 0, 31);
        run(x, "w1:7=1;t1;");
        dropped("a slot that was freed by the write of another", x, 0, -1);
        run(x, "r0:8;t1;");
        dropped("none is free again", x, 0, 31);
        x.drop(0, 31);
        dropped("a slot that was freed by drop", x, 0, -1);
        CacheDiary y = machine(2, 1, 16);
        run(y, "r1:5;t1;");
        dropped("the only slot", y, 1, 5);
        dropped("of the other cache", y, 0, -1);
    }

    private static void nextDroppedRefused() {
        Check.about("Promise 16", "Throws `IndexOutOfBoundsException` if there is no such cache");
        CacheDiary x = new CacheDiary();
        Check.due("the highest", -1, () -> x.nextDropped(2));
        for (int far : new int[] {-1, 3, 6, Integer.MIN_VALUE, Integer.MAX_VALUE}) {
            Check.noIndex("cache " + far, () -> x.nextDropped(far));
        }
        x.begin(6, 1, 1);
        Check.due("of six", -1, () -> x.nextDropped(5));
        x.begin(2, 1, 1);
        Check.noIndex("of two", () -> x.nextDropped(2));
    }

    private static final String TICKS = "Tells in how many ticks all pending requests would be served, if nothing else is"
        + " asked for.";

    private static void ticksToServe() {
        Check.about("Promise 17", "Returns the ticks, 0 or more.");
        CacheDiary x = machine(6, 4, 4);
        Check.due("nothing is pending", 0, () -> x.ticksToServe());
        x.read(3, 31);
        Check.due("one", 1, () -> x.ticksToServe());
        x.takeBack(3);
        Check.due("taken back", 0, () -> x.ticksToServe());
        Check.about("Promise 17", TICKS);
        for (int cache = 0; cache < 6; cache++) {
            x.write(cache, 3, cache);
            int ticks = cache + 1;
            Check.due("a race of " + ticks, ticks, () -> x.ticksToServe());
        }
        for (int left = 5; left >= 0; left--) {
            int ticks = left;
            x.pass(1);
            Check.due("left of them", ticks, () -> x.ticksToServe());
        }
        for (int cache = 0; cache < 6; cache++) {
            x.write(cache, 10 + cache, cache);
        }
        Check.due("different lines", 1, () -> x.ticksToServe());
        run(x, "t1;w0:1=1;w1:1=2;w2:1=3;w3:2=4;w4:2=5;r5:15;");
        Check.due("three of one line, two of another, and a hit", 3, () -> x.ticksToServe());
    }

    private static void ticksToServeInTurn() {
        Check.about("Promise 17", TICKS);
        CacheDiary x = machine(2, 4, 4);
        run(x, "w0:5=1;t1;w0:5=2;r1:5;");
        // Time 1: the cache 1 reads first, so the write of the cache 0 is a miss by then.
        Check.due("a hit that is none at its turn", 2, () -> x.ticksToServe());
        CacheDiary y = machine(2, 4, 4);
        run(y, "w0:5=1;t2;w0:5=2;r1:5;");
        // Time 2: the cache 0 hits first.
        Check.due("a hit at its turn", 1, () -> y.ticksToServe());
        Check.due("as it comes", 2, () -> y.pass(1));
    }

    private static void ticksToServeAtTheLastTime() {
        Check.about("Promise 17", TICKS);
        CacheDiary x = atTime99950();
        x.pass(50);
        Check.due("nothing is pending", 0, () -> x.ticksToServe());
        x.read(0, 1);
        x.write(1, 1, 1);
        x.write(2, 1, 2);
        // The sentence names no last time.
        Check.due("at the time 100000", 3, () -> x.ticksToServe());
        number("it stays the last time", x, 4, 100000);
    }

    private static void cheapest() {
        Check.about("Promise 18", "Returns the cache, of several the lowest one.");
        CacheDiary x = machine(6, 4, 4);
        Check.due("all alike, read", 0, () -> x.cheapest(0, false));
        Check.due("all alike, write", 0, () -> x.cheapest(31, true));
        run(x, "w5:31=1;t1;");
        Check.due("the last cache owns it", 5, () -> x.cheapest(31, false));
        Check.due("the last cache owns it, write", 5, () -> x.cheapest(31, true));
        run(x, "r3:31;t1;");
        Check.due("two share it", 3, () -> x.cheapest(31, false));
        Check.due("two share it, write", 3, () -> x.cheapest(31, true));
        Check.about("Promise 18", "Finds the cache for which a request would need the fewest messages now.");
        CacheDiary y = machine(3, 1, 8);
        run(y, "w0:1=1;w1:2=2;t1;");
        Check.due("a free slot", 2, () -> y.cheapest(5, false));
        run(y, "r0:2;t1;");
        Check.due("a shared copy in the slot", 0, () -> y.cheapest(5, true));
        y.write(0, 5, 5);
        Check.due("a pending request does not matter", 0, () -> y.cheapest(5, true));
        CacheDiary z = machine(2, 1, 1);
        run(z, "w0:1=1;t1;");
        Check.due("of two", 1, () -> z.cheapest(2, false));
    }

    private static void cheapestRefused() {
        Check.about("Promise 18", "Throws `IndexOutOfBoundsException` if there is no such line (0 to 31)");
        CacheDiary x = new CacheDiary();
        for (int far : new int[] {-1, 32, Integer.MIN_VALUE, Integer.MAX_VALUE}) {
            Check.noIndex("line " + far, () -> x.cheapest(far, false));
            Check.noIndex("line " + far + ", write", () -> x.cheapest(far, true));
        }
    }

    private static void hitRate() {
        Check.about("Promise 19", "0.0 if there were none.");
        CacheDiary x = new CacheDiary();
        Check.due("new", 0.0, () -> x.hitRate());
        x.read(0, 0);
        Check.due("only pending", 0.0, () -> x.hitRate());
        Check.about("Promise 19", "Returns the hits, converted to double, divided by the hits and misses, converted to double");
        x.pass(1);
        Check.due("no hit", 0.0, () -> x.hitRate());
        serveRead(x, 0, 0);
        Check.due("1 of 2", 1.0 / 2.0, () -> x.hitRate());
        serveRead(x, 0, 0);
        Check.due("2 of 3", 2.0 / 3.0, () -> x.hitRate());
        run(x, "r0:5;r1:5;t1;");
        Check.due("a race counts when it is served", 2.0 / 4.0, () -> x.hitRate());
        run(x, "t1;r1:5;t1;r1:5;t1;");
        Check.due("4 of 7", 4.0 / 7.0, () -> x.hitRate());
        x.begin(2, 1, 1);
        Check.due("begun", 0.0, () -> x.hitRate());
        undone("before it", x, 3);
        Check.due("4 of 7 again", 4.0 / 7.0, () -> x.hitRate());
    }

    private static void nothingChanges() {
        Check.about("Promise 14", COST);
        CacheDiary x = machine(4, 1, 1);
        run(x, "w0:1=1;t1;w1:2=2;t1;w0:1=5;w1:1=6;r2:2;r3:2;");
        long before = x.digest();
        Check.due("cost", 6, () -> x.cost(2, 1, true) + x.cost(0, 1, true) + x.cost(1, 2, false) + x.cost(2, 31, false));
        Check.due("cost changes nothing", before, () -> x.digest());
        Check.due("ticksToServe", 2, () -> x.ticksToServe());
        Check.due("ticksToServe changes nothing", before, () -> x.digest());
        Check.due("cheapest", 1, () -> x.cheapest(2, false));
        x.cheapest(1, true);
        Check.due("cheapest changes nothing", before, () -> x.digest());
        x.nextTorn();
        x.nextDropped(0);
        x.hitRate();
        Check.due("nextTorn, nextDropped and hitRate change nothing", before, () -> x.digest());
        Check.due("the run goes on as told", 4, () -> x.pass(2));
        Check.due("nothing else is pending", 0, () -> x.ticksToServe());
    }
}
