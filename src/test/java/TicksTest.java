/** Each sentence of "Terms" about ticks, races and the log. */
public final class TicksTest extends Play {
    public static void main(String[] args) {
        onePendingRequest();
        cachesInTurn();
        cachesInTurnAmongSome();
        hitsAtTheirTurn();
        hitsThatAreNoneAtTheirTurn();
        races();
        racesOfAllCaches();
        noRaces();
        time();
        log();
        logOfWhatIsServed();
        Check.close();
    }

    private static void onePendingRequest() {
        Check.about("Ticks", "Each cache can have one pending request.");
        CacheDiary x = machine(6, 4, 4);
        for (int c = 0; c < 6; c++) {
            int cache = c;
            Check.due("the first one of " + cache, 0, () -> x.read(cache, 31));
            Check.noState("a second one of " + cache, () -> x.read(cache, 31));
            Check.noState("a second one of " + cache, () -> x.write(cache, 0, 0));
        }
        number("each has one", x, 12, 6);
        Check.due("one is served", 1, () -> x.pass(1));
        Check.due("then the next one", 1, () -> x.read(0, 31));
        Check.noState("one that was put off is still pending", () -> x.read(1, 0));
    }

    private static final String TURNS = "When a tick passes, the caches are looked at one after the other, beginning with the"
        + " cache time % caches (the time before the tick), then in ascending order, after the last one the cache 0 and so"
        + " on.";

    private static void cachesInTurn() {
        Check.about("Ticks", TURNS);
        for (int caches = 2; caches <= 6; caches++) {
            CacheDiary x = machine(caches, 8, 16);
            for (int time = 0; time <= caches; time++) {
                for (int cache = 0; cache < caches; cache++) {
                    x.read(cache, cache);
                }
                x.pass(1);
                for (int turn = 0; turn < caches; turn++) {
                    int due = (time + turn) % caches;
                    int index = caches - 1 - turn;
                    Check.due(caches + " caches, time " + time + ", turn " + turn, due, () -> x.entry(index, 0));
                }
            }
        }
    }

    private static void cachesInTurnAmongSome() {
        Check.about("Ticks", TURNS);
        CacheDiary x = machine(6, 4, 4);
        x.pass(4);
        x.write(5, 9, 5);
        x.write(0, 9, 0);
        x.write(3, 9, 3);
        // At the time 4: 4, 5, 0, 1, 2, 3.
        x.pass(1);
        entryIs("the first that has a request", x, 0, 5, 9, 1, 5, 1, 4);
        // At the time 5: 5, 0, 1, 2, 3, 4.
        x.pass(1);
        entryIs("the cache 0 after the last one", x, 0, 0, 9, 1, 0, 3, 5);
        x.write(4, 9, 4);
        // At the time 6: 0, 1, 2, 3, 4, 5.
        x.pass(1);
        entryIs("ascending", x, 0, 3, 9, 1, 3, 3, 6);
        CacheDiary y = atTime99950();
        y.write(1, 9, 1);
        y.write(2, 9, 2);
        // 99950 % 3 is 2.
        y.pass(1);
        entryIs("late", y, 0, 2, 9, 1, 2, 1, 99950);
    }

    private static void hitsAtTheirTurn() {
        Check.about("Ticks", "A pending request that would be a hit, as it is at its turn, is served.");
        CacheDiary x = new CacheDiary();
        run(x, "w2:6=1;t3;");
        run(x, "r0:6;r1:6;r2:6;");
        // At the time 3: 0 misses, 1 is put off, 2 still has its copy.
        Check.due("a read behind a miss for the same line", 2, () -> x.pass(1));
        entryIs("the hit", x, 0, 2, 6, 0, 1, 0, 3);
        pendingIs("the miss", x, 1, 6, -1, 1);
        CacheDiary y = new CacheDiary();
        run(y, "r0:6;t1;r1:6;t1;t1;r0:6;r1:6;r2:6;t1;");
        numbers("two hits and a miss for the same line", y, 3, 4, 4, 1, 4, 3, 2, 3, 0);
        CacheDiary z = machine(2, 1, 1);
        run(z, "w0:31=1;t2;w0:31=2;t1;w0:31=3;w1:31=4;t1;t1;");
        // At the time 3: 1 misses first and takes the copy away, so that 0 has none any more.
        numbers("the tick 3 has a race", z, 2, 1, 1, 1, 5, 7, 1, 3, 1);
    }

    private static void hitsThatAreNoneAtTheirTurn() {
        Check.about("Ticks", "A pending request that would be a hit, as it is at its turn, is served.");
        CacheDiary x = new CacheDiary();
        run(x, "w2:6=1;t3;r0:6;");
        Check.due("it would be a hit when it is asked for", 1, () -> x.write(2, 6, 2));
        // The read of 0 makes the copy of 2 a shared one, so that a write is a miss by then, the second for the line.
        Check.due("at its turn it is none", 1, () -> x.pass(1));
        pendingIs("put off", x, 2, 6, 2, 1);
        CacheDiary y = new CacheDiary();
        run(y, "r1:6;t3;w0:6=3;");
        Check.due("it would be a hit when it is asked for", 1, () -> y.read(1, 6));
        Check.due("its copy is thrown away before its turn", 1, () -> y.pass(1));
        pendingIs("put off", y, 1, 6, -1, 1);
        Check.due("one tick later", 1, () -> y.pass(1));
        entryIs("it is a miss", y, 0, 1, 6, 0, 3, 3, 4);
    }

    private static final String RACE = "One that would be a miss is served if no miss for the same line was served in this"
        + " tick; otherwise it is put off, and stays pending: that is a race.";

    private static void races() {
        Check.about("Ticks", RACE);
        for (int line = 0; line < 32; line += 31) {
            CacheDiary x = new CacheDiary();
            x.read(0, line);
            x.read(1, line);
            x.write(2, line, 9);
            Check.due("one of three", 1, () -> x.pass(1));
            number("two races", x, 8, 2);
            pendingIs("served", x, 0, -1, -1, -1);
            pendingIs("put off", x, 1, line, -1, 1);
            pendingIs("put off", x, 2, line, 9, 1);
            number("of these two", x, 12, 2);
            number("what is put off is no miss yet", x, 7, 1);
            Check.due("one of two", 1, () -> x.pass(1));
            number("another race", x, 8, 3);
            pendingIs("put off again", x, 2, line, 9, 2);
            Check.due("the last one", 1, () -> x.pass(1));
            number("no other race", x, 8, 3);
        }
    }

    private static void racesOfAllCaches() {
        Check.about("Ticks", RACE);
        CacheDiary x = machine(6, 4, 4);
        for (int cache = 0; cache < 6; cache++) {
            x.write(cache, 5, cache);
        }
        for (int tick = 0; tick < 6; tick++) {
            Check.due("tick " + tick, 1, () -> x.pass(1));
            number("pending after tick " + tick, x, 12, 5 - tick);
        }
        number("five and four and so on", x, 8, 15);
        // At the time t the cache t is looked at first.
        entryIs("the last one", x, 0, 5, 5, 1, 5, 3, 5);
    }

    private static void noRaces() {
        Check.about("Ticks", RACE);
        CacheDiary x = machine(4, 1, 1);
        run(x, "r0:0;r1:1;r2:2;r3:31;t1;");
        number("misses for different lines", x, 13, 4);
        run(x, "r0:5;t1;r1:5;t1;");
        number("misses of different ticks", x, 8, 0);
        CacheDiary y = new CacheDiary();
        run(y, "w0:5=1;t3;w0:5=2;r1:5;t1;");
        // The hit of 0 comes first, and is no miss for the line.
        number("a miss behind a hit", y, 8, 0);
        entryIs("a miss behind a hit", y, 0, 1, 5, 0, 2, 3, 3);
    }

    private static void time() {
        Check.about("Ticks", "The time increases by 1.");
        CacheDiary x = new CacheDiary();
        x.pass(1);
        number("a tick without a request", x, 4, 1);
        x.read(0, 0);
        number("asking takes no time", x, 4, 1);
        x.pass(1);
        number("a tick that serves one", x, 4, 2);
        run(x, "r0:1;r1:1;r2:1;t1;");
        number("a tick with races", x, 4, 3);
        x.pass(100);
        number("a hundred of them, the last ones without a request", x, 4, 103);
        CacheDiary y = machine(6, 4, 4);
        for (int cache = 0; cache < 6; cache++) {
            y.write(cache, 9, cache);
        }
        y.pass(1);
        y.write(0, 9, 100);
        // At the time 1 the cache 1 is first, at the time 2 the cache 2, and so on, and the cache 0 is the last one.
        y.pass(100);
        for (int index = 0; index < 6; index++) {
            int cache = (6 - index) % 6;
            entryIs("the ticks of one pass", y, index, cache, 9, 1, cache == 0 ? 100 : cache, 3, 6 - index);
        }
        number("the ticks of one pass", y, 4, 101);
    }

    private static void log() {
        Check.about("Log", "Each request that is served is put into a log; the latest 12 entries are kept.");
        CacheDiary x = new CacheDiary();
        number("empty", x, 13, 0);
        for (int i = 0; i < 20; i++) {
            serveWrite(x, 0, 20, i);
            number("after " + (i + 1), x, 13, i < 12 ? i + 1 : 12);
        }
        for (int i = 0; i < 12; i++) {
            entryIs("twenty served", x, i, 0, 20, 1, 19 - i, 0, 19 - i);
        }
        Check.noIndex("the thirteenth", () -> x.entry(12, 0));
        CacheDiary y = new CacheDiary();
        for (int i = 0; i < 12; i++) {
            serveWrite(y, 1, 31, 999 - i);
        }
        entryIs("twelve served, the oldest", y, 11, 1, 31, 1, 999, 1, 0);
        entryIs("twelve served, the latest", y, 0, 1, 31, 1, 988, 0, 11);
        serveWrite(y, 1, 31, 5);
        entryIs("thirteen served, the oldest", y, 11, 1, 31, 1, 998, 0, 1);
        y.undo();
        entryIs("before the thirteenth", y, 11, 1, 31, 1, 999, 1, 0);
        Check.noIndex("twelve again", () -> y.entry(12, 0));
    }

    private static void logOfWhatIsServed() {
        Check.about("Log", "Each request that is served is put into a log; the latest 12 entries are kept.");
        CacheDiary x = new CacheDiary();
        run(x, "r0:1;r1:1;r2:2;t1;");
        number("a race is not in it", x, 13, 2);
        entryIs("the first one", x, 1, 0, 1, 0, 0, 1, 0);
        entryIs("the second one", x, 0, 2, 2, 0, 0, 1, 0);
        x.takeBack(1);
        x.drop(0, 1);
        x.tear(1);
        x.pass(1);
        number("a request that is taken back is not in it, nor drop and tear", x, 13, 2);
        run(x, "r2:2;t1;");
        number("a hit is in it", x, 13, 3);
        entryIs("a hit", x, 0, 2, 2, 0, 0, 0, 2);
    }
}
