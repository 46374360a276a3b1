/** At least one test for each promise of the document: ordinary inputs, the edges that it names, wrong inputs. */
public final class PromiseTest {
    public static void main(String[] args) {
        newObject();
        begin();
        beginIsUndoable();
        read();
        write();
        takeBack();
        pass();
        passUpToTheLastTime();
        drop();
        tear();
        copy();
        line();
        pending();
        entry();
        value();
        cost();
        nextTorn();
        nextDropped();
        ticksToServe();
        cheapest();
        hitRate();
        append();
        clearText();
        carryOut();
        carryOutAtTheLastTime();
        undo();
        undoBringsEverythingBack();
        digest();
        marksAndDroppedCopies();
        racesAndHits();
        Check.close();
    }

    private static void serveRead(CacheDiary x, int cache, int line) {
        x.read(cache, line);
        x.pass(1);
    }

    private static void serveWrite(CacheDiary x, int cache, int line, int value) {
        x.write(cache, line, value);
        x.pass(1);
    }

    private static void type(CacheDiary x, String text) {
        x.clearText();
        for (int i = 0; i < text.length(); i++) {
            x.append(text.charAt(i));
        }
    }

    private static void numbers(String name, CacheDiary x, int... want) {
        for (int what = 0; what < want.length; what++) {
            int w = what;
            Check.due(name + " value(" + w + ")", want[w], () -> x.value(w));
        }
    }

    private static void lineIs(String name, CacheDiary x, int line, int... want) {
        for (int what = 0; what < want.length; what++) {
            int w = what;
            Check.due(name + " line(" + line + ", " + w + ")", want[w], () -> x.line(line, w));
        }
    }

    private static void copyIs(String name, CacheDiary x, int cache, int line, int... want) {
        for (int what = 0; what < want.length; what++) {
            int w = what;
            Check.due(name + " copy(" + cache + ", " + line + ", " + w + ")", want[w], () -> x.copy(cache, line, w));
        }
    }

    private static void entryIs(String name, CacheDiary x, int index, int... want) {
        for (int what = 0; what < want.length; what++) {
            int w = what;
            Check.due(name + " entry(" + index + ", " + w + ")", want[w], () -> x.entry(index, w));
        }
    }

    private static void newObject() {
        CacheDiary x = new CacheDiary();
        numbers("1", x, 3, 4, 4, 0, 0, 0, 0, 0, 0, 0, 0, 0, 0, 0);
        for (int line = 0; line < 32; line++) {
            lineIs("1", x, line, 0, 0, -1, 0, 0, -1, -1, 0);
            for (int cache = 0; cache < 3; cache++) {
                copyIs("1", x, cache, line, 0, -1, -1, -1);
            }
        }
        Check.noState("1 undo", () -> x.undo());
        Check.due("1 clearText", 0, () -> x.clearText());
        Check.due("1 NONE", -1, () -> CacheDiary.NONE);
    }

    private static void begin() {
        CacheDiary x = new CacheDiary();
        int[][] wrong = {{1, 4, 4}, {7, 4, 4}, {3, 0, 4}, {3, 9, 4}, {3, 4, 0}, {3, 4, 17},
            {Integer.MIN_VALUE, 4, 4}, {3, Integer.MAX_VALUE, 4}, {3, 4, -1}};
        for (int[] w : wrong) {
            Check.noArgument("2 begin(" + w[0] + ", " + w[1] + ", " + w[2] + ")", () -> x.begin(w[0], w[1], w[2]));
        }
        numbers("2 after wrong begins", x, 3, 4, 4);
        Check.noState("2 wrong begins save nothing", () -> x.undo());
        Check.due("2 least", 0, () -> x.begin(2, 1, 1));
        numbers("2 least", x, 2, 1, 1);
        Check.noIndex("2 least cache", () -> x.read(2, 0));
        serveWrite(x, 0, 3, 5);
        serveWrite(x, 1, 4, 6);
        x.read(0, 9);
        x.append('r');
        Check.due("2 most", 2, () -> x.begin(6, 8, 16));
        numbers("2 most", x, 6, 8, 16, 0, 0, 0, 0, 0, 0, 0, 0, 0, 0, 0);
        lineIs("2 most", x, 3, 0, 0, -1, 0, 0, -1, -1, 0);
        lineIs("2 most", x, 4, 0, 0, -1, 0, 0, -1, -1, 0);
        Check.due("2 nothing pending", -1, () -> x.pending(0, 0));
        Check.noIndex("2 empty log", () -> x.entry(0, 0));
        Check.due("2 the text stays", 1, () -> x.clearText());
    }

    private static void beginIsUndoable() {
        CacheDiary x = new CacheDiary();
        serveWrite(x, 0, 3, 5);
        long before = x.digest();
        x.begin(6, 8, 16);
        Check.due("2 undo", 2, () -> x.undo());
        Check.due("2 undone", before, () -> x.digest());
    }

    private static void read() {
        CacheDiary x = new CacheDiary();
        Check.noIndex("3 cache", () -> x.read(3, 0));
        Check.noIndex("3 cache below", () -> x.read(-1, 0));
        Check.noIndex("3 line", () -> x.read(0, 32));
        Check.noIndex("3 line below", () -> x.read(0, -1));
        Check.due("3 miss", 0, () -> x.read(2, 31));
        Check.due("3 its line", 31, () -> x.pending(2, 0));
        Check.due("3 its value", -1, () -> x.pending(2, 1));
        Check.noState("3 pending", () -> x.read(2, 0));
        Check.noIndex("3 line before pending", () -> x.read(2, 32));
        Check.due("3 nothing served yet", 0, () -> x.value(13));
        x.pass(1);
        Check.due("3 hit of a shared copy", 1, () -> x.read(2, 31));
        Check.due("3 undoable", 2, () -> x.undo());
        Check.due("3 undone", -1, () -> x.pending(2, 0));
        serveWrite(x, 1, 31, 7);
        Check.due("3 hit of an owned copy", 1, () -> x.read(1, 31));
        Check.due("3 miss of a copy that was thrown away", 0, () -> x.read(2, 31));
    }

    private static void write() {
        CacheDiary x = new CacheDiary();
        Check.noIndex("4 cache before value", () -> x.write(3, 0, 1000));
        Check.noIndex("4 line before value", () -> x.write(0, 32, -1));
        Check.noArgument("4 value", () -> x.write(0, 0, 1000));
        Check.noArgument("4 value below", () -> x.write(0, 0, -1));
        Check.due("4 miss", 0, () -> x.write(0, 0, 999));
        Check.noState("4 pending", () -> x.write(0, 0, 0));
        Check.noArgument("4 value before pending", () -> x.write(0, 0, 1000));
        Check.due("4 its value", 999, () -> x.pending(0, 1));
        x.pass(1);
        copyIs("4", x, 0, 0, 2, 999, 0, 0);
        Check.due("4 hit", 1, () -> x.write(0, 0, 0));
        x.pass(1);
        lineIs("4 a hit writes the copy only", x, 0, 0, 0, 0, 0, 1, 0, 0, 0);
        copyIs("4", x, 0, 0, 2, 0, 0, 0);
        serveRead(x, 1, 0);
        Check.due("4 a shared copy is no hit", 0, () -> x.write(0, 0, 3));
        Check.due("4 undoable", 3, () -> x.undo());
        Check.due("4 undone", -1, () -> x.pending(0, 0));
    }

    private static void takeBack() {
        CacheDiary x = new CacheDiary();
        Check.noIndex("5 cache", () -> x.takeBack(3));
        Check.noIndex("5 cache below", () -> x.takeBack(-1));
        Check.noState("5 none", () -> x.takeBack(0));
        x.write(0, 17, 4);
        Check.due("5 line", 17, () -> x.takeBack(0));
        Check.noState("5 again", () -> x.takeBack(0));
        Check.due("5 pass", 0, () -> x.pass(1));
        x.undo();
        Check.due("5 undoable", 1, () -> x.undo());
        Check.due("5 undone", 17, () -> x.pending(0, 0));
    }

    private static void pass() {
        CacheDiary x = new CacheDiary();
        Check.noArgument("6 none", () -> x.pass(0));
        Check.noArgument("6 below", () -> x.pass(-1));
        Check.noArgument("6 too many", () -> x.pass(101));
        Check.due("6 nothing to serve", 0, () -> x.pass(100));
        Check.due("6 time", 100, () -> x.value(4));
        x.read(0, 1);
        x.read(1, 1);
        x.write(2, 2, 2);
        // Time 100: the cache 1 is looked at first, so the cache 0 is put off.
        Check.due("6 two of three", 2, () -> x.pass(1));
        Check.due("6 the race", 1, () -> x.pending(0, 2));
        Check.due("6 races", 1, () -> x.value(8));
        entryIs("6 first", x, 1, 1, 1, 0, 0, 1, 100);
        entryIs("6 second", x, 0, 2, 2, 1, 2, 1, 100);
        Check.due("6 the rest", 1, () -> x.pass(2));
        Check.due("6 undoable", 3, () -> x.undo());
        Check.due("6 undone", 101, () -> x.value(4));
    }

    private static void passUpToTheLastTime() {
        CacheDiary x = atTime99950();
        Check.noState("6 too late", () -> x.pass(51));
        Check.noArgument("6 argument first", () -> x.pass(101));
        Check.due("6 last time", 0, () -> x.pass(50));
        Check.due("6 time 100000", 100000, () -> x.value(4));
        Check.noState("6 no more", () -> x.pass(1));
        Check.due("6 what if goes on", 0, () -> x.read(0, 0));
        Check.due("6 ticks to serve", 1, () -> x.ticksToServe());
    }

    private static CacheDiary atTime99950() {
        CacheDiary x = new CacheDiary();
        type(x, "t50;t50;t50;t50;t50;t50;t50;t50;t50;t50;t50;t50;t50;t50;t50;t50;t50;t50;t50;t50;t50;t50;t50;t50;t50;");
        for (int i = 0; i < 79; i++) {
            x.carryOut();
        }
        for (int i = 0; i < 12; i++) {
            x.pass(100);
        }
        Check.due("time", 99950, () -> x.value(4));
        return x;
    }

    private static void drop() {
        CacheDiary x = new CacheDiary();
        Check.noIndex("7 cache", () -> x.drop(3, 0));
        Check.noIndex("7 line", () -> x.drop(0, 32));
        Check.noState("7 no copy", () -> x.drop(0, 0));
        serveWrite(x, 0, 8, 70);
        serveWrite(x, 0, 9, 71);
        Check.due("7 owned", 1, () -> x.drop(0, 8));
        lineIs("7 owned", x, 8, 70, 70, -1, 0, 1, -1, 0, 0);
        numbers("7 owned", x, 3, 4, 4, 2, 2, 3, 0, 2, 0, 0, 0, 1, 0, 2);
        serveRead(x, 1, 9);
        Check.due("7 shared", 0, () -> x.drop(0, 9));
        lineIs("7 shared", x, 9, 71, 71, -1, 2, 1, -1, 2, 0);
        Check.due("7 messages", 6, () -> x.value(5));
        serveRead(x, 0, 1);
        copyIs("7 the lowest slot is free", x, 0, 1, 1, 0, 0, 0);
        x.undo();
        x.undo();
        Check.due("7 undoable", 1, () -> x.undo());
        Check.due("7 undone", 1, () -> x.copy(0, 9, 0));
    }

    private static void tear() {
        CacheDiary x = new CacheDiary();
        Check.noIndex("8 line", () -> x.tear(32));
        Check.noIndex("8 line below", () -> x.tear(-1));
        Check.noState("8 no page", () -> x.tear(0));
        serveRead(x, 0, 8);
        serveRead(x, 1, 8);
        serveWrite(x, 2, 9, 1);
        serveRead(x, 2, 10);
        x.drop(2, 10);
        Check.due("8 two copies", 2, () -> x.tear(8));
        lineIs("8 shared", x, 8, 0, 0, -1, 3, 0, -1, -1, 1);
        Check.noState("8 again", () -> x.tear(8));
        Check.due("8 one copy", 1, () -> x.tear(9));
        lineIs("8 owned", x, 9, 0, 1, 2, 0, 0, -1, -1, 1);
        Check.due("8 no copy", 0, () -> x.tear(10));
        lineIs("8 none", x, 10, 0, 0, -1, 0, 0, -1, -1, 0);
        Check.due("8 torn", 3, () -> x.value(10));
        Check.due("8 undoable", 3, () -> x.undo());
        Check.due("8 undone", 1, () -> x.line(10, 4));
    }

    private static void copy() {
        CacheDiary x = new CacheDiary();
        Check.noIndex("9 cache first", () -> x.copy(3, 0, 4));
        Check.noIndex("9 line first", () -> x.copy(0, 32, -1));
        Check.noArgument("9 what", () -> x.copy(0, 0, 4));
        Check.noArgument("9 what below", () -> x.copy(0, 0, -1));
        copyIs("9 none", x, 0, 0, 0, -1, -1, -1);
        serveWrite(x, 0, 5, 50);
        serveRead(x, 0, 6);
        serveRead(x, 0, 7);
        copyIs("9", x, 0, 5, 2, 50, 0, 2);
        copyIs("9", x, 0, 6, 1, 0, 1, 1);
        copyIs("9", x, 0, 7, 1, 0, 2, 0);
        serveRead(x, 0, 5);
        copyIs("9 a hit uses the copy", x, 0, 5, 2, 50, 0, 0);
        copyIs("9 the others were used before", x, 0, 6, 1, 0, 1, 2);
        serveRead(x, 1, 6);
        copyIs("9 a request of another cache is no use", x, 0, 6, 1, 0, 1, 2);
        serveWrite(x, 0, 6, 8);
        copyIs("9 the shared copy becomes the owned one", x, 0, 6, 2, 8, 1, 0);
        copyIs("9 the other is thrown away", x, 1, 6, 0, -1, -1, -1);
    }

    private static void line() {
        CacheDiary x = new CacheDiary();
        Check.noIndex("10 line first", () -> x.line(32, 8));
        Check.noIndex("10 line below", () -> x.line(-1, 0));
        Check.noArgument("10 what", () -> x.line(0, 8));
        Check.noArgument("10 what below", () -> x.line(0, -1));
        serveWrite(x, 1, 31, 12);
        lineIs("10 owned", x, 31, 0, 12, 1, 0, 1, 1, 0, 0);
        serveRead(x, 2, 31);
        lineIs("10 shared", x, 31, 12, 12, -1, 6, 1, -1, 6, 0);
        serveWrite(x, 0, 31, 13);
        lineIs("10 owned by another", x, 31, 12, 13, 0, 0, 1, 0, 0, 0);
        serveWrite(x, 2, 31, 14);
        lineIs("10 a value goes to the memory", x, 31, 13, 14, 2, 0, 1, 2, 0, 0);
        Check.due("10 values that went to the memory", 2, () -> x.value(11));
        x.tear(31);
        lineIs("10 torn", x, 31, 13, 14, 2, 0, 0, -1, -1, 1);
    }

    private static void pending() {
        CacheDiary x = new CacheDiary();
        Check.noIndex("11 cache first", () -> x.pending(3, 3));
        Check.noIndex("11 cache below", () -> x.pending(-1, 0));
        Check.noArgument("11 what", () -> x.pending(0, 3));
        Check.noArgument("11 what below", () -> x.pending(0, -1));
        for (int what = 0; what < 3; what++) {
            int w = what;
            Check.due("11 none", -1, () -> x.pending(0, w));
        }
        x.write(0, 4, 40);
        x.write(1, 4, 41);
        x.read(2, 4);
        Check.due("11 line", 4, () -> x.pending(1, 0));
        Check.due("11 value", 41, () -> x.pending(1, 1));
        Check.due("11 value of a read", -1, () -> x.pending(2, 1));
        Check.due("11 not put off", 0, () -> x.pending(2, 2));
        x.pass(1);
        Check.due("11 put off", 1, () -> x.pending(2, 2));
        x.takeBack(2);
        x.read(2, 4);
        Check.due("11 a new request", 0, () -> x.pending(2, 2));
        Check.due("11 served", -1, () -> x.pending(0, 2));
    }

    private static void entry() {
        CacheDiary x = new CacheDiary();
        Check.noIndex("12 none kept", () -> x.entry(0, 6));
        for (int i = 0; i < 11; i++) {
            serveWrite(x, 0, 20, i);
        }
        Check.noIndex("12 eleven kept", () -> x.entry(11, 0));
        serveWrite(x, 0, 20, 11);
        entryIs("12 the oldest of twelve", x, 11, 0, 20, 1, 0, 1, 0);
        serveRead(x, 1, 20);
        Check.due("12 kept", 12, () -> x.value(13));
        Check.noIndex("12 twelve kept", () -> x.entry(12, 0));
        Check.noIndex("12 below", () -> x.entry(-1, 0));
        Check.noArgument("12 what", () -> x.entry(0, 6));
        Check.noArgument("12 what below", () -> x.entry(0, -1));
        entryIs("12 latest", x, 0, 1, 20, 0, 11, 3, 12);
        entryIs("12 before", x, 1, 0, 20, 1, 11, 0, 11);
        entryIs("12 oldest", x, 11, 0, 20, 1, 1, 0, 1);
    }

    private static void value() {
        CacheDiary x = new CacheDiary();
        Check.noArgument("13 what", () -> x.value(14));
        Check.noArgument("13 what below", () -> x.value(-1));
        Check.noArgument("13 what far below", () -> x.value(Integer.MIN_VALUE));
        x.begin(4, 1, 1);
        x.write(0, 1, 1);
        x.write(1, 1, 2);
        x.write(2, 2, 3);
        numbers("13 asked", x, 4, 1, 1, 0, 0, 0, 0, 0, 0, 0, 0, 0, 3, 0);
        // Line 1 for the cache 0: 1; line 2 for the cache 2: 1, and the page of line 1 goes.
        x.pass(1);
        numbers("13 first tick", x, 4, 1, 1, 1, 1, 2, 0, 2, 1, 0, 1, 0, 1, 2);
        // Line 1 is marked: 3 are asked, and the owner answers: 2.
        x.pass(1);
        numbers("13 second tick", x, 4, 1, 1, 1, 2, 7, 0, 3, 1, 1, 2, 1, 0, 3);
        serveRead(x, 1, 1);
        numbers("13 a hit", x, 4, 1, 1, 1, 3, 7, 1, 3, 1, 1, 2, 1, 0, 4);
    }

    private static void cost() {
        CacheDiary x = new CacheDiary();
        Check.noIndex("14 cache", () -> x.cost(3, 0, false));
        Check.noIndex("14 line", () -> x.cost(0, 32, true));
        Check.noIndex("14 below", () -> x.cost(-1, -1, true));
        x.begin(4, 1, 2);
        Check.due("14 new page, read", 1, () -> x.cost(0, 0, false));
        Check.due("14 new page, write", 1, () -> x.cost(0, 0, true));
        serveWrite(x, 0, 0, 1);
        Check.due("14 read hit", 0, () -> x.cost(0, 0, false));
        Check.due("14 write hit", 0, () -> x.cost(0, 0, true));
        Check.due("14 owner elsewhere, read", 3, () -> x.cost(1, 0, false));
        Check.due("14 owner elsewhere, write", 3, () -> x.cost(1, 0, true));
        Check.due("14 slot of an owned copy", 2, () -> x.cost(0, 1, false));
        serveRead(x, 1, 0);
        serveRead(x, 2, 0);
        Check.due("14 shared by two others", 3, () -> x.cost(0, 0, true));
        Check.due("14 shared by three others", 4, () -> x.cost(3, 0, true));
        Check.due("14 shared, read", 1, () -> x.cost(3, 0, false));
        Check.due("14 slot of a shared copy", 1, () -> x.cost(0, 1, true));
        x.tear(0);
        Check.due("14 asked", 3, () -> x.cost(3, 0, false));
        Check.due("14 asked, write", 6, () -> x.cost(3, 0, true));
        Check.due("14 asked, an owner of a shared copy", 5, () -> x.cost(0, 0, true));
        long before = x.digest();
        x.cost(3, 0, true);
        Check.due("14 changes nothing", before, () -> x.digest());
    }

    private static void nextTorn() {
        CacheDiary x = new CacheDiary();
        x.begin(2, 8, 2);
        Check.due("15 empty", -1, () -> x.nextTorn());
        serveRead(x, 0, 5);
        Check.due("15 not full", -1, () -> x.nextTorn());
        serveRead(x, 0, 6);
        Check.due("15 full", 5, () -> x.nextTorn());
        serveRead(x, 0, 5);
        Check.due("15 a hit is no use of the page", 5, () -> x.nextTorn());
        serveRead(x, 1, 5);
        Check.due("15 a miss is one", 6, () -> x.nextTorn());
        x.drop(0, 6);
        Check.due("15 drop is none", 6, () -> x.nextTorn());
        serveRead(x, 1, 7);
        Check.due("15 the next one", 5, () -> x.nextTorn());
        lineIs("15 torn, without a copy", x, 6, 0, 0, -1, 0, 0, -1, -1, 0);
        x.tear(5);
        Check.due("15 room again", -1, () -> x.nextTorn());
    }

    private static void nextDropped() {
        CacheDiary x = new CacheDiary();
        Check.noIndex("16 cache", () -> x.nextDropped(3));
        Check.noIndex("16 below", () -> x.nextDropped(-1));
        x.begin(2, 2, 16);
        serveRead(x, 0, 5);
        Check.due("16 a free slot", -1, () -> x.nextDropped(0));
        serveRead(x, 0, 6);
        Check.due("16 least recent", 5, () -> x.nextDropped(0));
        Check.due("16 of the other cache", -1, () -> x.nextDropped(1));
        serveRead(x, 0, 5);
        Check.due("16 a hit uses it", 6, () -> x.nextDropped(0));
        serveRead(x, 0, 7);
        copyIs("16 thrown away", x, 0, 6, 0, -1, -1, -1);
        copyIs("16 its slot", x, 0, 7, 1, 0, 1, 0);
        lineIs("16 its page does not tell of it", x, 6, 0, 0, -1, 0, 1, -1, 0, 0);
        serveWrite(x, 1, 5, 1);
        Check.due("16 slot free by another's write", -1, () -> x.nextDropped(0));
    }

    private static void ticksToServe() {
        CacheDiary x = new CacheDiary();
        Check.due("17 none", 0, () -> x.ticksToServe());
        x.begin(6, 4, 4);
        for (int c = 0; c < 6; c++) {
            x.write(c, 3, c);
        }
        long before = x.digest();
        Check.due("17 a race of six", 6, () -> x.ticksToServe());
        Check.due("17 changes nothing", before, () -> x.digest());
        Check.due("17 one is left", 5, () -> x.pass(5));
        Check.due("17 then one", 1, () -> x.ticksToServe());
        x.pass(1);
        x.read(0, 1);
        x.read(1, 2);
        Check.due("17 different lines", 1, () -> x.ticksToServe());
    }

    private static void cheapest() {
        CacheDiary x = new CacheDiary();
        Check.noIndex("18 line", () -> x.cheapest(32, false));
        Check.noIndex("18 below", () -> x.cheapest(-1, true));
        Check.due("18 all alike", 0, () -> x.cheapest(0, true));
        serveWrite(x, 2, 0, 1);
        Check.due("18 the owner", 2, () -> x.cheapest(0, false));
        serveRead(x, 1, 0);
        Check.due("18 the lowest of the sharers", 1, () -> x.cheapest(0, false));
        Check.due("18 a sharer writes", 1, () -> x.cheapest(0, true));
        x.begin(2, 1, 1);
        serveWrite(x, 0, 1, 1);
        Check.due("18 the slot of an owned copy costs", 1, () -> x.cheapest(2, false));
    }

    private static void hitRate() {
        CacheDiary x = new CacheDiary();
        Check.due("19 none", 0.0, () -> x.hitRate());
        serveRead(x, 0, 0);
        Check.due("19 no hit", 0.0, () -> x.hitRate());
        serveRead(x, 0, 0);
        Check.due("19 half", 0.5, () -> x.hitRate());
        serveRead(x, 0, 0);
        Check.due("19 two of three", 2.0 / 3.0, () -> x.hitRate());
    }

    private static void append() {
        CacheDiary x = new CacheDiary();
        Check.noArgument("20 above", () -> x.append(128));
        Check.noArgument("20 below", () -> x.append(-1));
        for (int i = 1; i <= 100; i++) {
            int length = i;
            Check.due("20 length", length, () -> x.append(length == 1 ? 127 : 0));
        }
        Check.noState("20 full", () -> x.append(0));
        Check.noArgument("20 full, but the argument first", () -> x.append(128));
        Check.due("20 not undoable", 100, () -> x.clearText());
        Check.noState("20 no saved state", () -> x.undo());
    }

    private static void clearText() {
        CacheDiary x = new CacheDiary();
        x.append('x');
        x.append('y');
        Check.due("21 length", 2, () -> x.clearText());
        Check.due("21 empty", 0, () -> x.clearText());
        Check.due("21 an empty text has no error", 0, () -> x.carryOut());
        Check.due("21 from the start again", 1, () -> x.append('t'));
    }

    private static void carryOut() {
        CacheDiary x = new CacheDiary();
        type(x, "w2:07=099;t1;r0:7;t01;t50;");
        Check.due("22 all", 5, () -> x.carryOut());
        numbers("22 all", x, 3, 4, 4, 1, 52, 4, 0, 2, 0, 0, 0, 1, 0, 2);
        entryIs("22 the read", x, 0, 0, 7, 0, 99, 3, 1);
        Check.due("22 one saved state", 0, () -> x.undo());
        Check.due("22 undone", 0, () -> x.value(4));
        Check.due("22 the text stays", 5, () -> x.carryOut());
        type(x, "r0:1;r1:1;r0:2;t1;");
        Check.due("22 a pending request", 2, () -> x.carryOut());
        Check.due("22 none of the orders behind it", 52, () -> x.value(4));
        type(x, "r5:1;");
        Check.due("22 no such cache", 0, () -> x.carryOut());
        Check.due("22 saved for no order, too", 2, () -> x.undo());
        type(x, "t1;x");
        long before = x.digest();
        Check.due("22 error", -13, () -> x.carryOut());
        Check.due("22 then nothing changes", before, () -> x.digest());
    }

    private static void carryOutAtTheLastTime() {
        CacheDiary x = atTime99950();
        type(x, "t49;t02;t01;");
        Check.due("22 too late", 1, () -> x.carryOut());
        Check.due("22 time", 99999, () -> x.value(4));
        type(x, "t1;r0:0;t1;");
        Check.due("22 up to 100000", 2, () -> x.carryOut());
        Check.due("22 time 100000", 100000, () -> x.value(4));
    }

    private static void undo() {
        CacheDiary x = new CacheDiary();
        Check.noState("23 none", () -> x.undo());
        long[] digests = new long[6];
        for (int i = 0; i < 6; i++) {
            digests[i] = x.digest();
            serveOrTear(x, i);
        }
        x.append('a');
        for (int left = 3; left >= 0; left--) {
            int want = left;
            Check.due("23 left", want, () -> x.undo());
        }
        Check.noState("23 only four", () -> x.undo());
        Check.due("23 the oldest of the four", 0, () -> x.value(4));
        Check.due("23 its requests", 2, () -> x.value(12));
        Check.due("23 the text is not undone", 1, () -> x.clearText());
        x.takeBack(0);
        x.undo();
        Check.due("23 a state is saved once", 2, () -> x.value(12));
        Check.noState("23 and removed", () -> x.undo());
    }

    /** A machine in which every number is in use, with four saved states. */
    private static CacheDiary used() {
        CacheDiary x = new CacheDiary();
        x.begin(4, 2, 2);
        type(x, "w0:1=11;t1;w0:2=12;t1;r0:1;w1:3=13;t1;r2:1;t1;w2:4=14;r3:4;r1:4;t2;r0:3;t1;");
        Check.due("used", 15, () -> x.carryOut());
        x.write(3, 3, 15);
        x.read(1, 5);
        x.write(2, 5, 16);
        x.pass(1);
        x.write(0, 2, 17);
        return x;
    }

    private static void undoBringsEverythingBack() {
        for (int i = 0; i < 8; i++) {
            CacheDiary x = used();
            type(x, "r3:9;t50;w3:9=9;t1;");
            long before = x.digest();
            long unrelated = x.ticksToServe() * 100L + x.nextDropped(0);
            undoable(x, i);
            x.undo();
            // The number of saved states, 4 before and 3 now, is what the digest ends with.
            Check.due("23 undone call " + i, before - 1, () -> x.digest());
            Check.due("23 what if, call " + i, unrelated, () -> x.ticksToServe() * 100L + x.nextDropped(0));
            x.pass(3);
            CacheDiary y = used();
            type(y, "r3:9;t50;w3:9=9;t1;");
            y.pass(3);
            Check.due("23 it goes on as before, call " + i, y.digest(), () -> x.digest());
        }
    }

    private static void undoable(CacheDiary x, int call) {
        switch (call) {
            case 0: x.begin(2, 1, 1); break;
            case 1: x.read(1, 7); break;
            case 2: x.write(1, 7, 7); break;
            case 3: x.takeBack(0); break;
            case 4: x.pass(100); break;
            case 5: x.drop(3, 3); break;
            case 6: x.tear(3); break;
            default: x.carryOut();
        }
    }

    private static void serveOrTear(CacheDiary x, int step) {
        switch (step) {
            case 0: x.write(0, 1, 10); break;
            case 1: x.read(1, 1); break;
            case 2: x.pass(1); break;
            case 3: x.tear(1); break;
            case 4: x.drop(0, 1); break;
            default: x.pass(1);
        }
    }

    private static void digest() {
        CacheDiary x = new CacheDiary();
        Check.due("24 new", byHand(x, 0, 0), () -> x.digest());
        x.begin(4, 2, 2);
        serveWrite(x, 0, 1, 10);
        serveRead(x, 1, 1);
        serveRead(x, 2, 2);
        x.write(3, 2, 5);
        x.append('r');
        Check.due("24 used", byHand(x, 1, 4), () -> x.digest());
        x.undo();
        Check.due("24 undone", byHand(x, 1, 3), () -> x.digest());
    }

    private static long byHand(CacheDiary x, int textLength, int savedStates) {
        long h = 31L * 3677 + textLength;
        for (int what = 0; what < 14; what++) {
            h = 31 * h + x.value(what);
        }
        for (int line = 0; line < 32; line++) {
            for (int what = 0; what < 8; what++) {
                h = 31 * h + x.line(line, what);
            }
            for (int cache = 0; cache < x.value(0); cache++) {
                for (int what = 0; what < 4; what++) {
                    h = 31 * h + x.copy(cache, line, what);
                }
            }
        }
        for (int cache = 0; cache < x.value(0); cache++) {
            for (int what = 0; what < 3; what++) {
                h = 31 * h + x.pending(cache, what);
            }
        }
        for (int index = 0; index < x.value(13); index++) {
            for (int what = 0; what < 6; what++) {
                h = 31 * h + x.entry(index, what);
            }
        }
        h = 31 * h + x.nextTorn();
        return 31 * h + savedStates;
    }

    private static void marksAndDroppedCopies() {
        CacheDiary x = new CacheDiary();
        x.begin(2, 1, 1);
        serveWrite(x, 0, 1, 10);
        // The page of line 1 is torn out before the copy of line 1 is thrown away, so the mark comes and stays.
        serveWrite(x, 0, 2, 20);
        lineIs("a mark stays", x, 1, 10, 10, -1, 0, 0, -1, -1, 1);
        entryIs("all its messages", x, 0, 0, 2, 1, 20, 2, 1);
        // With two caches one other is asked.
        serveRead(x, 1, 1);
        entryIs("asked in vain", x, 0, 1, 1, 0, 10, 1, 2);
        Check.due("times asked", 1, () -> x.value(9));
        lineIs("the mark is taken away", x, 1, 10, 10, -1, 2, 1, -1, 2, 0);
        lineIs("line 2 is marked", x, 2, 0, 20, 0, 0, 0, -1, -1, 1);
    }

    private static void racesAndHits() {
        CacheDiary x = new CacheDiary();
        serveWrite(x, 2, 6, 1);
        x.pass(2);
        x.read(0, 6);
        x.read(1, 6);
        x.read(2, 6);
        // Time 3: the cache 0 misses, the cache 1 is put off, the cache 2 hits its copy all the same.
        Check.due("a hit behind a miss", 2, () -> x.pass(1));
        Check.due("put off", 1, () -> x.pending(1, 2));
        x.write(2, 6, 9);
        // Time 4: the cache 1 misses first; the write of the cache 2 would be a miss by now, and is put off.
        Check.due("a write behind a miss", 1, () -> x.pass(1));
        Check.due("the write is put off", 1, () -> x.pending(2, 2));
        Check.due("races", 2, () -> x.value(8));
    }
}
