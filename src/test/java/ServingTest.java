/** Each sentence of "Terms" of what a machine holds, and of what happens when a request is served. */
public final class ServingTest extends Play {
    public static void main(String[] args) {
        caches();
        slots();
        pages();
        memory();
        copies();
        pagesOfLines();
        marks();
        hits();
        hitsNeedNoPage();
        misses();
        pageThatIsThere();
        allCachesAreAsked();
        allCachesAreAskedInVain();
        newPage();
        fullDiary();
        fullDiaryAndMarkedLine();
        readOfAnOwnedLine();
        readOfTheMemory();
        writeOfAnOwnedLine();
        writeOfASharedLine();
        writeMakesAnOwner();
        pageTellsAllThis();
        needOfASlot();
        noFreeSlot();
        noFreeSlotAndNoPage();
        markStays();
        tornAndThrownAwayAtOnce();
        lowestFreeSlot();
        useOfACopy();
        Check.close();
    }

    private static final String SIZES = "There are 2 to 6 caches, initially 3, numbered from 0, each with 1 to 8 slots,"
        + " initially 4, and a diary with room for 1 to 16 pages, initially 4.";

    private static void caches() {
        Check.about("Machine", SIZES);
        CacheDiary fresh = new CacheDiary();
        numbers("new", fresh, 3, 4, 4);
        Check.noIndex("new, cache -1", () -> fresh.read(-1, 0));
        Check.due("new, cache 0", 0, () -> fresh.read(0, 0));
        Check.due("new, cache 2", 0, () -> fresh.read(2, 0));
        Check.noIndex("new, cache 3", () -> fresh.read(3, 0));
        for (int n = 2; n <= 6; n++) {
            CacheDiary x = machine(n, 1, 1);
            int last = n - 1;
            number("caches", x, 0, n);
            Check.noIndex(n + " caches, -1", () -> x.read(-1, 0));
            Check.due(n + " caches, the first", 0, () -> x.read(0, 0));
            Check.due(n + " caches, the last", 0, () -> x.read(last, 0));
            Check.noIndex(n + " caches, one more", () -> x.read(last + 1, 0));
        }
    }

    private static void slots() {
        Check.about("Machine", SIZES);
        slotsOf(new CacheDiary(), 4);
        for (int n = 1; n <= 8; n++) {
            slotsOf(machine(2, n, 16), n);
        }
    }

    private static void slotsOf(CacheDiary x, int n) {
        for (int line = 0; line < n; line++) {
            dropped(n + " slots, one is free", x, 0, -1);
            serveRead(x, 0, line);
            copyFact(n + " slots", x, 0, line, 2, line);
        }
        dropped(n + " slots, none is free", x, 0, 0);
        dropped(n + " slots of each cache", x, 1, -1);
        serveRead(x, 0, 31);
        noCopy(n + " slots, one copy more", x, 0, 0);
        copyIs(n + " slots, one copy more", x, 0, 31, 1, 0, 0, 0);
    }

    private static void pages() {
        Check.about("Machine", SIZES);
        pagesOf(new CacheDiary(), 4);
        for (int n = 1; n <= 16; n++) {
            pagesOf(machine(2, 8, n), n);
        }
    }

    private static void pagesOf(CacheDiary x, int n) {
        for (int line = 0; line < n; line++) {
            torn(n + " pages, there is room", x, -1);
            serveRead(x, 0, line);
        }
        torn(n + " pages, there is no room", x, 0);
        number(n + " pages are there", x, 3, n);
        number(n + " pages, none is torn", x, 10, 0);
        serveRead(x, 0, 31);
        number(n + " pages, one more", x, 3, n);
        number(n + " pages, one is torn", x, 10, 1);
        lineFact(n + " pages, the first is torn", x, 0, 4, 0);
        lineFact(n + " pages, the last is there", x, 31, 4, 1);
    }

    private static void memory() {
        Check.about("Machine", "The memory has 32 lines, numbered from 0, each with a value, 0 to 999, initially 0.");
        CacheDiary x = new CacheDiary();
        for (int line = 0; line < 32; line++) {
            lineFact("new", x, line, 0, 0);
        }
        Check.noIndex("line -1", () -> x.line(-1, 0));
        Check.noIndex("line 32", () -> x.line(32, 0));
        run(x, "w0:0=999;w1:31=999;t1;");
        x.drop(0, 0);
        x.drop(1, 31);
        lineFact("the highest value", x, 0, 0, 999);
        lineFact("of the last line", x, 31, 0, 999);
        lineFact("of the line 30", x, 30, 0, 0);
        run(x, "w0:31=0;t1;r1:31;t1;");
        lineFact("the lowest value", x, 31, 0, 0);
    }

    private static void copies() {
        Check.about("Copies", "A slot of a cache is free or holds a copy of a line, with a value; the copy is shared or"
            + " owned.");
        CacheDiary x = machine(2, 2, 4);
        noCopy("free", x, 0, 31);
        run(x, "r0:31;w1:0=999;t1;");
        copyIs("shared", x, 0, 31, 1, 0, 0, 0);
        copyIs("owned", x, 1, 0, 2, 999, 0, 0);
        Check.about("Copies", "A cache has at most one copy of a line.");
        run(x, "r0:31;t1;w0:31=1;t1;w0:31=2;t1;r0:31;t1;");
        copyIs("one copy", x, 0, 31, 2, 2, 0, 0);
        dropped("the other slot is free", x, 0, -1);
        run(x, "r0:1;t1;");
        copyIs("in the other slot", x, 0, 1, 1, 0, 1, 0);
        dropped("none is free", x, 0, 31);
    }

    private static void pagesOfLines() {
        Check.about("Diary", "A page is about one line; it tells the cache that owns a copy (or none) and the set of the"
            + " caches that share it.");
        CacheDiary x = machine(6, 4, 4);
        lineIs("no page", x, 31, 0, 0, -1, 0, 0, -1, -1, 0);
        run(x, "w5:31=7;t1;");
        lineIs("an owner", x, 31, 0, 7, 5, 0, 1, 5, 0, 0);
        run(x, "r0:31;r1:31;r2:31;r3:31;r4:31;t5;");
        lineIs("all share it", x, 31, 7, 7, -1, 63, 1, -1, 63, 0);
        for (int cache = 0; cache < 6; cache++) {
            x.drop(cache, 31);
        }
        lineIs("nobody", x, 31, 7, 7, -1, 0, 1, -1, 0, 0);
        lineIs("of another line", x, 30, 0, 0, -1, 0, 0, -1, -1, 0);
        Check.about("Diary", "There is at most one page about a line.");
        run(x, "r0:31;t1;w1:31=3;t1;r2:31;t1;w2:31=4;t1;");
        number("misses for one line", x, 3, 1);
        number("no page was torn for them", x, 10, 0);
    }

    private static void marks() {
        Check.about("Diary", "A line can be marked as torn.");
        CacheDiary x = machine(2, 1, 1);
        for (int line = 0; line < 32; line++) {
            lineFact("not yet", x, line, 7, 0);
            serveRead(x, 0, line);
            x.tear(line);
            lineFact("torn", x, line, 7, 1);
        }
        lineFact("still", x, 0, 7, 1);
        lineFact("still", x, 30, 7, 1);
        serveRead(x, 1, 31);
        lineFact("the last one, no more", x, 31, 7, 0);
        lineFact("another one, still", x, 30, 7, 1);
        lineFact("another one, still", x, 0, 7, 1);
    }

    private static void hits() {
        Check.about("Served, step 1", "If it is a read, and the cache has a copy of the line, or if it is a write, and the"
            + " cache owns a copy, it is a hit: no messages; a write puts its value into the copy.");
        CacheDiary x = new CacheDiary();
        run(x, "w0:1=10;t1;r0:1;t1;");
        entryIs("read of an owned copy", x, 0, 0, 1, 0, 10, 0, 1);
        numbers("read of an owned copy", x, 3, 4, 4, 1, 2, 1, 1, 1);
        run(x, "w0:1=11;t1;");
        entryIs("write of an owned copy", x, 0, 0, 1, 1, 11, 0, 2);
        numbers("write of an owned copy", x, 3, 4, 4, 1, 3, 1, 2, 1);
        copyIs("its value", x, 0, 1, 2, 11, 0, 0);
        lineFact("the memory has no part in it", x, 1, 0, 0);
        run(x, "r1:1;t1;r0:1;t1;");
        entryIs("read of a shared copy", x, 0, 0, 1, 0, 11, 0, 4);
        numbers("read of a shared copy", x, 3, 4, 4, 1, 5, 4, 3, 2);
        run(x, "w0:1=12;t1;");
        entryIs("write of a shared copy is none", x, 0, 0, 1, 1, 12, 2, 5);
        numbers("write of a shared copy is none", x, 3, 4, 4, 1, 6, 6, 3, 3);
    }

    private static void hitsNeedNoPage() {
        Check.about("Served, step 1", "it is a hit: no messages; a write puts its value into the copy.");
        CacheDiary x = new CacheDiary();
        run(x, "w0:1=10;r1:2;t1;");
        x.tear(1);
        x.tear(2);
        run(x, "w0:1=11;r1:2;t1;");
        numbers("hits without a page", x, 3, 4, 4, 0, 2, 2, 2, 2, 0, 0, 2, 0, 0, 4);
        lineIs("a write without a page", x, 1, 0, 11, 0, 0, 0, -1, -1, 1);
        lineIs("a read without a page", x, 2, 0, 0, -1, 2, 0, -1, -1, 1);
    }

    private static void misses() {
        Check.about("Served, step 1", "Otherwise it is a miss, and goes on with step 2.");
        CacheDiary x = new CacheDiary();
        run(x, "r0:1;t1;");
        number("read without a copy", x, 7, 1);
        run(x, "w0:2=2;t1;");
        number("write without a copy", x, 7, 2);
        run(x, "w0:1=1;t1;");
        number("write of a shared copy", x, 7, 3);
        run(x, "w1:1=1;t1;r0:1;t1;");
        number("of copies that are gone", x, 7, 5);
        number("no hit among them", x, 6, 0);
    }

    private static void pageThatIsThere() {
        Check.about("Served, step 2", "If there is a page about the line, there is 1 message.");
        CacheDiary x = new CacheDiary();
        run(x, "r0:1;t1;r1:1;t1;");
        sent("a page that tells of a copy", x, 1);
        x.drop(0, 1);
        x.drop(1, 1);
        run(x, "r2:1;t1;");
        sent("a page that tells of none", x, 1);
        x.drop(2, 1);
        run(x, "w2:1=1;t1;");
        sent("a write", x, 1);
        number("no other page was made", x, 3, 1);
        number("nobody was asked", x, 9, 0);
    }

    private static final String ASKED = "If there is none, and the line is marked as torn, all other caches are asked: as"
        + " many messages as there are other caches, and no other one; a page is made that tells who owns and who shares"
        + " copies as it is, and the mark is taken away.";

    private static void allCachesAreAsked() {
        Check.about("Served, step 2", ASKED);
        for (int n = 2; n <= 6; n++) {
            CacheDiary x = machine(n, 4, 4);
            run(x, "w0:31=5;t1;");
            x.tear(31);
            run(x, "r1:31;t1;");
            sent(n + " caches, one owns a copy", x, n - 1 + 2);
            lineIs(n + " caches, read", x, 31, 5, 5, -1, 3, 1, -1, 3, 0);
            number(n + " caches", x, 9, 1);
            x.tear(31);
            run(x, "w1:31=6;t1;");
            sent(n + " caches, the writer and another share copies", x, n - 1 + 1);
            lineIs(n + " caches, write", x, 31, 5, 6, 1, 0, 1, 1, 0, 0);
            number(n + " caches", x, 9, 2);
            x.tear(31);
            run(x, "w0:31=7;t1;");
            sent(n + " caches, one owns a copy, write", x, n - 1 + 2);
            lineIs(n + " caches, write of another", x, 31, 6, 7, 0, 0, 1, 0, 0, 0);
            number(n + " caches", x, 9, 3);
            number(n + " caches, one page", x, 3, 1);
        }
        CacheDiary y = machine(6, 4, 4);
        run(y, "r0:3;t1;r2:3;t1;r4:3;t1;");
        y.tear(3);
        run(y, "r5:3;t1;");
        sent("three share copies, read", y, 5);
        lineIs("three share copies, read", y, 3, 0, 0, -1, 53, 1, -1, 53, 0);
    }

    private static void allCachesAreAskedInVain() {
        Check.about("Served, step 2", ASKED);
        CacheDiary x = machine(4, 4, 4);
        run(x, "r0:3;t1;");
        x.tear(3);
        x.drop(0, 3);
        lineIs("marked, but no copy", x, 3, 0, 0, -1, 0, 0, -1, -1, 1);
        run(x, "r0:3;t1;");
        sent("asked in vain", x, 3);
        lineIs("asked in vain", x, 3, 0, 0, -1, 1, 1, -1, 1, 0);
        number("asked in vain", x, 9, 1);
        run(x, "r1:3;t1;");
        sent("the mark is away", x, 1);
        number("not asked again", x, 9, 1);
    }

    private static void newPage() {
        Check.about("Served, step 2", "Otherwise there is 1 message, and a page is made that tells that nobody has a copy.");
        CacheDiary x = machine(6, 4, 4);
        run(x, "r0:3;t1;");
        sent("no page yet, read", x, 1);
        lineIs("no page yet, read", x, 3, 0, 0, -1, 1, 1, -1, 1, 0);
        run(x, "w5:4=9;t1;");
        sent("no page yet, write", x, 1);
        lineIs("no page yet, write", x, 4, 0, 9, 5, 0, 1, 5, 0, 0);
        x.drop(0, 3);
        x.tear(3);
        run(x, "r1:3;t1;");
        sent("torn, but not marked", x, 1);
        lineIs("torn, but not marked", x, 3, 0, 0, -1, 2, 1, -1, 2, 0);
        number("nobody was asked", x, 9, 0);
    }

    private static void fullDiary() {
        Check.about("Served, step 2", "Before a page is made in a full diary, the page that was used least recently is"
            + " torn out; its line is marked as torn if that page tells of any copy.");
        CacheDiary x = machine(2, 8, 3);
        run(x, "r0:1;t1;r0:2;t1;w0:3=3;t1;");
        number("room for three", x, 10, 0);
        run(x, "r1:1;t1;");
        number("a page that is there needs no room", x, 10, 0);
        torn("the page 1 was used again", x, 2);
        run(x, "r0:4;t1;");
        lineIs("a shared copy", x, 2, 0, 0, -1, 1, 0, -1, -1, 1);
        numbers("one is torn", x, 2, 8, 3, 3, 5, 5, 0, 5, 0, 0, 1);
        sent("tearing costs no message", x, 1);
        run(x, "r0:5;t1;");
        lineIs("an owned copy", x, 3, 0, 3, 0, 0, 0, -1, -1, 1);
        x.drop(0, 1);
        x.drop(1, 1);
        run(x, "r0:6;t1;");
        lineIs("no copy", x, 1, 0, 0, -1, 0, 0, -1, -1, 0);
        numbers("three are torn", x, 2, 8, 3, 3, 7, 7, 0, 7, 0, 0, 3);
        x.tear(4);
        run(x, "r0:7;t1;");
        numbers("there was room", x, 2, 8, 3, 3, 8, 8, 0, 8, 0, 0, 4);
    }

    private static void fullDiaryAndMarkedLine() {
        Check.about("Served, step 2", "Before a page is made in a full diary, the page that was used least recently is"
            + " torn out; its line is marked as torn if that page tells of any copy.");
        CacheDiary x = machine(4, 8, 1);
        run(x, "w0:1=1;t1;w1:2=2;t1;r2:1;t1;");
        entryIs("a line that is marked", x, 0, 2, 1, 0, 1, 5, 2);
        lineIs("its page", x, 1, 1, 1, -1, 5, 1, -1, 5, 0);
        lineIs("the other one", x, 2, 0, 2, 1, 0, 0, -1, -1, 1);
        numbers("two are torn", x, 4, 8, 1, 1, 3, 7, 0, 3, 0, 1, 2, 1, 0, 3);
    }

    private static void readOfAnOwnedLine() {
        Check.about("Served, step 3", "A read: if another cache owns a copy, its value goes to the memory, and the copy is"
            + " shared from then on: 2 messages.");
        CacheDiary x = new CacheDiary();
        run(x, "w2:7=999;t1;");
        lineFact("owned", x, 7, 0, 0);
        run(x, "r0:7;t1;");
        sent("another owns it", x, 3);
        lineFact("its value", x, 7, 0, 999);
        copyIs("its copy", x, 2, 7, 1, 999, 0, 0);
        number("values that went to the memory", x, 11, 1);
        run(x, "r1:7;t1;");
        sent("nobody owns it", x, 1);
        number("no other value", x, 11, 1);
    }

    private static void readOfTheMemory() {
        Check.about("Served, step 3", "Then the cache gets a shared copy with the value of the memory.");
        CacheDiary x = new CacheDiary();
        run(x, "r0:7;t1;");
        copyIs("never written", x, 0, 7, 1, 0, 0, 0);
        run(x, "w2:7=998;t1;r1:7;t1;");
        copyIs("just written", x, 1, 7, 1, 998, 0, 0);
        run(x, "r0:7;t1;");
        copyIs("from the memory", x, 0, 7, 1, 998, 0, 0);
        entryIs("from the memory", x, 0, 0, 7, 0, 998, 1, 3);
    }

    private static void writeOfAnOwnedLine() {
        Check.about("Served, step 4", "A write: if another cache owns a copy, its value goes to the memory, and the copy is"
            + " thrown away: 2 messages.");
        CacheDiary x = new CacheDiary();
        run(x, "w2:7=998;t1;w0:7=5;t1;");
        sent("another owns it", x, 3);
        lineIs("another owns it", x, 7, 998, 5, 0, 0, 1, 0, 0, 0);
        noCopy("another owns it", x, 2, 7);
        number("values that went to the memory", x, 11, 1);
    }

    private static void writeOfASharedLine() {
        Check.about("Served, step 4", "Each shared copy of another cache is thrown away: 1 message each.");
        CacheDiary x = machine(6, 4, 4);
        run(x, "r0:7;t1;r1:7;t1;r2:7;t1;r3:7;t1;r4:7;t1;w5:7=1;t1;");
        sent("five others, and no copy", x, 6);
        for (int cache = 0; cache < 5; cache++) {
            noCopy("thrown away", x, cache, 7);
        }
        run(x, "r0:7;t1;r1:7;t1;r2:7;t1;r3:7;t1;r4:7;t1;w2:7=2;t1;");
        sent("five others, and a copy", x, 6);
        lineIs("five others, and a copy", x, 7, 1, 2, 2, 0, 1, 2, 0, 0);
        number("a shared copy brings no value to the memory", x, 11, 1);
        x.drop(2, 7);
        run(x, "r2:7;t1;w2:7=3;t1;");
        sent("a copy, and no others", x, 1);
        run(x, "r0:7;t1;w1:7=3;t1;");
        sent("two others, and no copy", x, 3);
    }

    private static void writeMakesAnOwner() {
        Check.about("Served, step 4", "Then the cache gets an owned copy with the new value (if it has a shared one, that"
            + " becomes the owned one).");
        CacheDiary x = new CacheDiary();
        run(x, "w0:6=0;t1;w0:7=999;t1;r0:8;t1;");
        copyIs("the lowest value", x, 0, 6, 2, 0, 0, 2);
        copyIs("the highest value", x, 0, 7, 2, 999, 1, 1);
        run(x, "r1:7;t1;w0:7=4;t1;");
        copyIs("the shared one", x, 0, 7, 2, 4, 1, 0);
        lineFact("the new value does not go to the memory", x, 7, 0, 999);
    }

    private static void pageTellsAllThis() {
        Check.about("Served, step 5", "The page tells all this then.");
        CacheDiary x = machine(4, 4, 2);
        run(x, "w0:7=1;t1;");
        lineIs("a write", x, 7, 0, 1, 0, 0, 1, 0, 0, 0);
        run(x, "r3:7;t1;");
        lineIs("a read", x, 7, 1, 1, -1, 9, 1, -1, 9, 0);
        run(x, "w1:7=2;t1;");
        lineIs("a write of another", x, 7, 1, 2, 1, 0, 1, 1, 0, 0);
        Check.about("Served, step 5", "Its use is its newest one.");
        run(x, "r2:8;t1;");
        torn("made", x, 7);
        run(x, "r2:7;t1;");
        torn("read", x, 8);
        run(x, "w2:8=1;t1;");
        torn("written", x, 7);
        run(x, "r2:7;t1;");
        torn("a hit is no use", x, 7);
        run(x, "w2:8=2;t1;r0:7;t1;w2:8=3;t1;");
        torn("nor is a write that is one", x, 8);
    }

    private static void needOfASlot() {
        Check.about("Served, step 4", "To get a copy (in step 3 or 4), a cache that has none of the line needs a free slot.");
        CacheDiary x = machine(2, 2, 8);
        run(x, "r0:1;t1;w0:2=2;t1;w0:1=5;t1;");
        sent("a shared copy needs none", x, 1);
        copyIs("it becomes the owned one", x, 0, 1, 2, 5, 0, 0);
        copyIs("the other one stays", x, 0, 2, 2, 2, 1, 1);
        run(x, "r0:3;t1;");
        noCopy("a read without a copy needs one", x, 0, 2);
        run(x, "w0:4=4;t1;");
        noCopy("a write without a copy needs one", x, 0, 1);
    }

    private static final String THROWN_AWAY = "If there is none, it throws away the copy that it used least recently first:"
        + " if it is owned, its value goes to the memory, 1 message; a page about that line, if there is one, does not tell"
        + " of this copy any more (that is no use of the page).";

    private static void noFreeSlot() {
        Check.about("Served, step 4", THROWN_AWAY);
        CacheDiary x = machine(2, 2, 3);
        run(x, "w0:1=10;t1;r0:2;t1;w1:3=30;t1;");
        number("two slots are enough", x, 11, 0);
        torn("the page 1 was used least recently", x, 1);
        run(x, "r0:3;t1;");
        sent("an owned copy", x, 1 + 2 + 1);
        noCopy("an owned copy", x, 0, 1);
        lineIs("an owned copy", x, 1, 10, 10, -1, 0, 1, -1, 0, 0);
        number("both values went to the memory", x, 11, 2);
        torn("no use of the page", x, 1);
        run(x, "w0:1=11;t1;");
        sent("a shared copy", x, 1);
        noCopy("a shared copy", x, 0, 2);
        lineIs("a shared copy", x, 2, 0, 0, -1, 0, 1, -1, 0, 0);
        torn("no use of its page either", x, 2);
        number("no value went to the memory", x, 11, 2);
    }

    private static void noFreeSlotAndNoPage() {
        Check.about("Served, step 4", THROWN_AWAY);
        CacheDiary x = machine(6, 1, 4);
        run(x, "w0:1=10;t1;");
        x.tear(1);
        run(x, "r0:2;t1;");
        sent("an owned copy without a page", x, 2);
        lineIs("an owned copy without a page", x, 1, 10, 10, -1, 0, 0, -1, -1, 1);
        x.tear(2);
        run(x, "w0:3=3;t1;");
        sent("a shared copy without a page", x, 1);
        lineIs("a shared copy without a page", x, 2, 0, 0, -1, 0, 0, -1, -1, 1);
    }

    private static void markStays() {
        Check.about("Served, step 4", "A mark as torn stays.");
        CacheDiary x = machine(3, 1, 4);
        run(x, "w0:1=10;t1;");
        x.tear(1);
        run(x, "r0:2;t1;");
        lineFact("its only copy is thrown away", x, 1, 7, 1);
        run(x, "r0:1;t1;r1:1;t1;");
        x.tear(1);
        run(x, "r1:2;t1;");
        lineIs("one of two copies is thrown away", x, 1, 10, 10, -1, 1, 0, -1, -1, 1);
    }

    private static void tornAndThrownAwayAtOnce() {
        Check.about("Served, step 4", "a page about that line, if there is one, does not tell of this copy any more");
        CacheDiary x = machine(3, 1, 1);
        run(x, "w0:1=10;t1;w0:2=20;t1;");
        // Step 2 comes first: the page still tells of the copy that goes in step 4.
        lineIs("its page is torn out first", x, 1, 10, 10, -1, 0, 0, -1, -1, 1);
        sent("the copy costs a message", x, 2);
        numbers("both", x, 3, 1, 1, 1, 2, 3, 0, 2, 0, 0, 1, 1);
    }

    private static void lowestFreeSlot() {
        Check.about("Served, step 4", "The lowest free slot is taken.");
        CacheDiary x = machine(2, 4, 8);
        run(x, "r0:1;t1;r0:2;t1;r0:3;t1;r0:4;t1;");
        x.drop(0, 3);
        x.drop(0, 2);
        run(x, "r0:5;t1;");
        copyFact("the lower of two", x, 0, 5, 2, 1);
        run(x, "w0:6=1;t1;");
        copyFact("the other one", x, 0, 6, 2, 2);
        run(x, "w1:4=1;t1;r0:7;t1;");
        copyFact("freed by the write of another", x, 0, 7, 2, 3);
        run(x, "r0:8;t1;");
        copyFact("freed for it", x, 0, 8, 2, 0);
    }

    private static void useOfACopy() {
        Check.about("Served, step 4", "A cache uses a copy whenever one of its requests for the line is served.");
        CacheDiary x = machine(2, 2, 4);
        run(x, "w0:1=1;t1;r0:2;t1;");
        dropped("misses", x, 0, 1);
        run(x, "r0:1;t1;");
        dropped("a read that is a hit", x, 0, 2);
        run(x, "w0:2=2;t1;");
        dropped("a write of a shared copy", x, 0, 1);
        run(x, "w0:1=2;t1;");
        dropped("a write that is a hit", x, 0, 2);
        run(x, "r1:2;t1;");
        dropped("a request of another cache is no use", x, 0, 2);
        x.read(0, 2);
        dropped("a request that is not served yet is no use", x, 0, 2);
        x.pass(1);
        dropped("served", x, 0, 1);
    }
}
