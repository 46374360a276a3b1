import java.util.Arrays;

/** Caches that keep a common diary of who has which line. */
public final class CacheDiary {
    public static final int NONE = -1;

    private static final int MIN_CACHES = 2;
    private static final int MAX_CACHES = 6;
    private static final int MAX_SLOTS = 8;
    private static final int MAX_PAGES = 16;
    private static final int LINES = 32;
    private static final int MAX_VALUE = 999;
    private static final int MAX_PASS = 100;
    private static final int MAX_TIME = 100000;
    private static final int MAX_TEXT = 100;
    private static final int MAX_BYTE = 127;
    private static final int MAX_ORDERS = MAX_TEXT / 3 + 1;
    private static final int LOG_ROOM = 12;
    private static final int SAVED_ROOM = 4;

    private static final int NO_COPY = 0;
    private static final int SHARED = 1;
    private static final int OWNED = 2;

    private static final int COPY_FACTS = 4;
    private static final int LINE_FACTS = 8;
    private static final int PENDING_FACTS = 3;
    private static final int ENTRY_FACTS = 6;
    private static final int NUMBERS = 14;

    private static final int SYNTAX_ERROR = -10;
    private static final long FIRST_HASH = 3677;

    private final Machine machine;
    private final Machine trial;
    private final History history;
    private final byte[] text;
    private int textLength;
    private final OrderReader orders;

    public CacheDiary() {
        machine = new Machine();
        machine.startAnew(3, 4, 4);
        trial = new Machine();
        history = new History();
        text = new byte[MAX_TEXT];
        textLength = 0;
        orders = new OrderReader();
    }

    // ---- machine

    public int begin(int caches, int slots, int pages) throws IllegalArgumentException {
        needRange(caches, MIN_CACHES, MAX_CACHES);
        needRange(slots, 1, MAX_SLOTS);
        needRange(pages, 1, MAX_PAGES);
        history.save(machine);
        int timeBefore = machine.time;
        machine.startAnew(caches, slots, pages);
        return timeBefore;
    }

    public int read(int cache, int line) throws IndexOutOfBoundsException, IllegalStateException {
        needIndex(cache, machine.caches);
        needIndex(line, LINES);
        needState(!machine.requests.isPending(cache));
        history.save(machine);
        machine.requests.ask(cache, line, NONE);
        return machine.isHit(cache, line, false) ? 1 : 0;
    }

    public int write(int cache, int line, int value)
            throws IndexOutOfBoundsException, IllegalArgumentException, IllegalStateException {
        needIndex(cache, machine.caches);
        needIndex(line, LINES);
        needRange(value, 0, MAX_VALUE);
        needState(!machine.requests.isPending(cache));
        history.save(machine);
        machine.requests.ask(cache, line, value);
        return machine.isHit(cache, line, true) ? 1 : 0;
    }

    public int takeBack(int cache) throws IndexOutOfBoundsException, IllegalStateException {
        needIndex(cache, machine.caches);
        needState(machine.requests.isPending(cache));
        history.save(machine);
        int line = machine.requests.line[cache];
        machine.requests.forget(cache);
        return line;
    }

    public int pass(int ticks) throws IllegalArgumentException, IllegalStateException {
        needRange(ticks, 1, MAX_PASS);
        needState(machine.hasTimeFor(ticks));
        history.save(machine);
        return machine.letPass(ticks);
    }

    public int drop(int cache, int line) throws IndexOutOfBoundsException, IllegalStateException {
        needIndex(cache, machine.caches);
        needIndex(line, LINES);
        needState(machine.copies.kindOf(cache, line) != NO_COPY);
        history.save(machine);
        int sent = machine.copies.kindOf(cache, line) == OWNED ? 1 : 0;
        machine.throwAway(cache, line);
        machine.messages += sent;
        return sent;
    }

    public int tear(int line) throws IndexOutOfBoundsException, IllegalStateException {
        needIndex(line, LINES);
        needState(machine.diary.hasPage(line));
        history.save(machine);
        int told = machine.copies.countOf(line);
        machine.diary.tearOut(line, told > 0);
        return told;
    }

    // ---- values

    public int copy(int cache, int line, int what) throws IndexOutOfBoundsException, IllegalArgumentException {
        needIndex(cache, machine.caches);
        needIndex(line, LINES);
        needRange(what, 0, COPY_FACTS - 1);
        return machine.copies.fact(cache, line, what);
    }

    public int line(int line, int what) throws IndexOutOfBoundsException, IllegalArgumentException {
        needIndex(line, LINES);
        needRange(what, 0, LINE_FACTS - 1);
        return machine.lineFact(line, what);
    }

    public int pending(int cache, int what) throws IndexOutOfBoundsException, IllegalArgumentException {
        needIndex(cache, machine.caches);
        needRange(what, 0, PENDING_FACTS - 1);
        return machine.requests.fact(cache, what);
    }

    public int entry(int index, int what) throws IndexOutOfBoundsException, IllegalArgumentException {
        needIndex(index, machine.log.count);
        needRange(what, 0, ENTRY_FACTS - 1);
        return machine.log.fact(index, what);
    }

    public int value(int what) throws IllegalArgumentException {
        needRange(what, 0, NUMBERS - 1);
        return machine.number(what);
    }

    // ---- what if

    public int cost(int cache, int line, boolean write) throws IndexOutOfBoundsException {
        needIndex(cache, machine.caches);
        needIndex(line, LINES);
        return machine.costOf(cache, line, write);
    }

    public int nextTorn() {
        return machine.diary.lineToTear();
    }

    public int nextDropped(int cache) throws IndexOutOfBoundsException {
        needIndex(cache, machine.caches);
        return machine.lineToDrop(cache);
    }

    public int ticksToServe() {
        trial.takeOver(machine);
        int ticks = 0;
        // Each tick serves at least the first request that it looks at.
        for (int i = 0; i < MAX_CACHES && trial.requests.count() > 0; i++) {
            trial.tick();
            ticks++;
        }
        return ticks;
    }

    public int cheapest(int line, boolean write) throws IndexOutOfBoundsException {
        needIndex(line, LINES);
        int best = 0;
        int bestCost = machine.costOf(0, line, write);
        for (int cache = 1; cache < machine.caches; cache++) {
            int cost = machine.costOf(cache, line, write);
            if (cost < bestCost) {
                best = cache;
                bestCost = cost;
            }
        }
        return best;
    }

    public double hitRate() {
        int served = machine.hits + machine.misses;
        if (served == 0) {
            return 0.0;
        }
        return (double) machine.hits / (double) served;
    }

    // ---- text

    public int append(int value) throws IllegalArgumentException, IllegalStateException {
        needRange(value, 0, MAX_BYTE);
        needState(textLength < MAX_TEXT);
        text[textLength] = (byte) value;
        textLength++;
        return textLength;
    }

    public int clearText() {
        int lengthBefore = textLength;
        textLength = 0;
        return lengthBefore;
    }

    public int carryOut() {
        int error = orders.readAll(text, textLength);
        if (error != NONE) {
            return SYNTAX_ERROR - error;
        }
        history.save(machine);
        for (int i = 0; i < orders.count; i++) {
            if (!isPossible(i)) {
                return i;
            }
            if (orders.isTicks(i)) {
                machine.letPass(orders.number[i]);
            } else {
                machine.requests.ask(orders.cache[i], orders.line[i], orders.number[i]);
            }
        }
        return orders.count;
    }

    // ---- state

    public int undo() throws IllegalStateException {
        needState(history.count > 0);
        history.restore(machine);
        return history.count;
    }

    public long digest() {
        long hash = 31 * FIRST_HASH + textLength;
        for (int what = 0; what < NUMBERS; what++) {
            hash = 31 * hash + machine.number(what);
        }
        for (int line = 0; line < LINES; line++) {
            hash = hashLine(hash, line);
        }
        for (int cache = 0; cache < machine.caches; cache++) {
            for (int what = 0; what < PENDING_FACTS; what++) {
                hash = 31 * hash + machine.requests.fact(cache, what);
            }
        }
        for (int index = 0; index < machine.log.count; index++) {
            for (int what = 0; what < ENTRY_FACTS; what++) {
                hash = 31 * hash + machine.log.fact(index, what);
            }
        }
        hash = 31 * hash + machine.diary.lineToTear();
        return 31 * hash + history.count;
    }

    private long hashLine(long hashBefore, int line) {
        long hash = hashBefore;
        for (int what = 0; what < LINE_FACTS; what++) {
            hash = 31 * hash + machine.lineFact(line, what);
        }
        for (int cache = 0; cache < machine.caches; cache++) {
            for (int what = 0; what < COPY_FACTS; what++) {
                hash = 31 * hash + machine.copies.fact(cache, line, what);
            }
        }
        return hash;
    }

    /** Tells whether an order of the text, asked for as a call, would throw no exception. */
    private boolean isPossible(int order) {
        if (orders.isTicks(order)) {
            return machine.hasTimeFor(orders.number[order]);
        }
        int cache = orders.cache[order];
        return cache < machine.caches && !machine.requests.isPending(cache);
    }

    private static void needIndex(int index, int count) {
        if (index < 0 || index >= count) {
            throw new IndexOutOfBoundsException("there is no such cache, line or entry");
        }
    }

    private static void needRange(int number, int lowest, int highest) {
        if (number < lowest || number > highest) {
            throw new IllegalArgumentException("an argument is out of range");
        }
    }

    private static void needState(boolean good) {
        if (!good) {
            throw new IllegalStateException("this cannot be done now");
        }
    }

    /** Everything that undo brings back: the caches, the memory, the diary, the requests and the log. */
    private static final class Machine {
        final int[] memory = new int[LINES];
        final int[] lastWritten = new int[LINES];
        final Copies copies = new Copies();
        final Diary diary = new Diary();
        final Requests requests = new Requests();
        final Log log = new Log();
        int caches;
        int slots;
        int time;
        int messages;
        int hits;
        int misses;
        int races;
        int broughtBack;

        void startAnew(int newCaches, int newSlots, int newPages) {
            Arrays.fill(memory, 0);
            Arrays.fill(lastWritten, 0);
            copies.removeAll();
            diary.empty(newPages);
            requests.forgetAll();
            log.count = 0;
            caches = newCaches;
            slots = newSlots;
            time = 0;
            messages = 0;
            hits = 0;
            misses = 0;
            races = 0;
            broughtBack = 0;
        }

        void takeOver(Machine other) {
            System.arraycopy(other.memory, 0, memory, 0, LINES);
            System.arraycopy(other.lastWritten, 0, lastWritten, 0, LINES);
            copies.takeOver(other.copies);
            diary.takeOver(other.diary);
            requests.takeOver(other.requests);
            log.takeOver(other.log);
            caches = other.caches;
            slots = other.slots;
            time = other.time;
            messages = other.messages;
            hits = other.hits;
            misses = other.misses;
            races = other.races;
            broughtBack = other.broughtBack;
        }

        boolean hasTimeFor(int ticks) {
            return ticks <= MAX_TIME - time;
        }

        /** Returns the requests that were served. */
        int letPass(int ticks) {
            int end = time + ticks;
            int served = 0;
            // Ticks without a pending request change nothing but the time.
            for (int i = 0; i < ticks && requests.count() > 0; i++) {
                served += tick();
            }
            time = end;
            return served;
        }

        /** Returns the requests that were served. */
        int tick() {
            int first = caches > 0 ? time % caches : 0;
            int missedLines = 0;
            int served = 0;
            for (int i = 0; i < caches; i++) {
                int cache = first + i < caches ? first + i : first + i - caches;
                if (!requests.isPending(cache)) {
                    continue;
                }
                int line = requests.line[cache];
                boolean hit = isHit(cache, line, requests.isWrite(cache));
                if (!hit && (missedLines >> line & 1) != 0) {
                    requests.putOff[cache]++;
                    races++;
                    continue;
                }
                if (!hit) {
                    missedLines |= 1 << line;
                }
                serve(cache, line, hit);
                served++;
            }
            time++;
            return served;
        }

        boolean isHit(int cache, int line, boolean write) {
            int kind = copies.kindOf(cache, line);
            return write ? kind == OWNED : kind != NO_COPY;
        }

        /** The messages of a request if it was served now. */
        int costOf(int cache, int line, boolean write) {
            if (isHit(cache, line, write)) {
                return 0;
            }
            int sent = !diary.hasPage(line) && diary.isMarked(line) ? caches - 1 : 1;
            // At a miss a cache that owns a copy is always another one.
            if (copies.ownerOf(line) != NONE) {
                sent += 2;
            }
            if (write) {
                sent += Integer.bitCount(copies.sharersOf(line) & ~(1 << cache));
            }
            if (copies.kindOf(cache, line) == NO_COPY) {
                int dropped = lineToDrop(cache);
                if (dropped != NONE && copies.kindOf(cache, dropped) == OWNED) {
                    sent++;
                }
            }
            return sent;
        }

        private void serve(int cache, int line, boolean hit) {
            boolean write = requests.isWrite(cache);
            // Counted ahead: serving changes what the messages depend on.
            int sent = costOf(cache, line, write);
            messages += sent;
            if (hit) {
                hits++;
            } else {
                misses++;
                fetch(cache, line, write);
            }
            if (write) {
                copies.own(cache, line, requests.value[cache]);
                lastWritten[line] = requests.value[cache];
            }
            copies.use(cache, line);
            log.add(cache, line, write ? 1 : 0, copies.valueOf(cache, line), sent, time);
            requests.forget(cache);
        }

        /** Steps 2 to 5 of a miss, but for the owning and the value of a write, which a hit shares. */
        private void fetch(int cache, int line, boolean write) {
            if (!diary.hasPage(line)) {
                makeRoomInDiary();
                diary.makePage(line);
            }
            int owner = copies.ownerOf(line);
            if (owner != NONE) {
                bringBack(owner, line);
                copies.share(owner, line);
            }
            if (write) {
                copies.removeOthers(cache, line);
            }
            if (copies.kindOf(cache, line) == NO_COPY) {
                int dropped = lineToDrop(cache);
                if (dropped != NONE) {
                    throwAway(cache, dropped);
                }
                copies.add(cache, line, memory[line], copies.freeSlot(cache, slots));
            }
            diary.use(line);
        }

        private void makeRoomInDiary() {
            int torn = diary.lineToTear();
            if (torn != NONE) {
                diary.tearOut(torn, copies.countOf(torn) > 0);
            }
        }

        private void bringBack(int cache, int line) {
            memory[line] = copies.valueOf(cache, line);
            broughtBack++;
        }

        void throwAway(int cache, int line) {
            if (copies.kindOf(cache, line) == OWNED) {
                bringBack(cache, line);
            }
            copies.remove(cache, line);
        }

        int lineToDrop(int cache) {
            return copies.freeSlot(cache, slots) != NONE ? NONE : copies.leastUsed(cache);
        }

        int lineFact(int line, int what) {
            switch (what) {
                case 0: return memory[line];
                case 1: return lastWritten[line];
                case 2: return copies.ownerOf(line);
                case 3: return copies.sharersOf(line);
                case 4: return diary.hasPage(line) ? 1 : 0;
                // A page is never wrong: what changes a copy changes the page about its line, too.
                case 5: return diary.hasPage(line) ? copies.ownerOf(line) : NONE;
                case 6: return diary.hasPage(line) ? copies.sharersOf(line) : NONE;
                default: return diary.isMarked(line) ? 1 : 0;
            }
        }

        int number(int what) {
            switch (what) {
                case 0: return caches;
                case 1: return slots;
                case 2: return diary.room;
                case 3: return diary.pages;
                case 4: return time;
                case 5: return messages;
                case 6: return hits;
                case 7: return misses;
                case 8: return races;
                case 9: return diary.timesAsked;
                case 10: return diary.tornOut;
                case 11: return broughtBack;
                case 12: return requests.count();
                default: return log.count;
            }
        }
    }

    /** The copies in all caches. A cache has at most one copy of a line, so cache and line name it. */
    private static final class Copies {
        private final int[] kind = new int[MAX_CACHES * LINES];
        private final int[] value = new int[MAX_CACHES * LINES];
        private final int[] slot = new int[MAX_CACHES * LINES];
        private final int[] lastUse = new int[MAX_CACHES * LINES];
        private int uses;

        void removeAll() {
            Arrays.fill(kind, NO_COPY);
            uses = 0;
        }

        void takeOver(Copies other) {
            System.arraycopy(other.kind, 0, kind, 0, kind.length);
            System.arraycopy(other.value, 0, value, 0, value.length);
            System.arraycopy(other.slot, 0, slot, 0, slot.length);
            System.arraycopy(other.lastUse, 0, lastUse, 0, lastUse.length);
            uses = other.uses;
        }

        int kindOf(int cache, int line) {
            return kind[cache * LINES + line];
        }

        int valueOf(int cache, int line) {
            return value[cache * LINES + line];
        }

        void add(int cache, int line, int newValue, int newSlot) {
            int at = cache * LINES + line;
            kind[at] = SHARED;
            value[at] = newValue;
            slot[at] = newSlot;
        }

        void share(int cache, int line) {
            kind[cache * LINES + line] = SHARED;
        }

        void own(int cache, int line, int newValue) {
            kind[cache * LINES + line] = OWNED;
            value[cache * LINES + line] = newValue;
        }

        void use(int cache, int line) {
            uses++;
            lastUse[cache * LINES + line] = uses;
        }

        void remove(int cache, int line) {
            kind[cache * LINES + line] = NO_COPY;
        }

        void removeOthers(int cache, int line) {
            for (int other = 0; other < MAX_CACHES; other++) {
                if (other != cache) {
                    kind[other * LINES + line] = NO_COPY;
                }
            }
        }

        int ownerOf(int line) {
            for (int cache = 0; cache < MAX_CACHES; cache++) {
                if (kind[cache * LINES + line] == OWNED) {
                    return cache;
                }
            }
            return NONE;
        }

        int sharersOf(int line) {
            int sharers = 0;
            for (int cache = 0; cache < MAX_CACHES; cache++) {
                if (kind[cache * LINES + line] == SHARED) {
                    sharers |= 1 << cache;
                }
            }
            return sharers;
        }

        int countOf(int line) {
            int count = 0;
            for (int cache = 0; cache < MAX_CACHES; cache++) {
                if (kind[cache * LINES + line] != NO_COPY) {
                    count++;
                }
            }
            return count;
        }

        /** The lowest free slot of a cache; NONE if all are taken. */
        int freeSlot(int cache, int slots) {
            int taken = 0;
            for (int line = 0; line < LINES; line++) {
                if (kind[cache * LINES + line] != NO_COPY) {
                    taken |= 1 << slot[cache * LINES + line];
                }
            }
            for (int free = 0; free < slots; free++) {
                if ((taken >> free & 1) == 0) {
                    return free;
                }
            }
            return NONE;
        }

        /** The line of the copy that a cache used least recently; NONE if it has no copy. */
        int leastUsed(int cache) {
            int least = NONE;
            int leastUse = 0;
            for (int line = 0; line < LINES; line++) {
                int at = cache * LINES + line;
                if (kind[at] != NO_COPY && (least == NONE || lastUse[at] < leastUse)) {
                    least = line;
                    leastUse = lastUse[at];
                }
            }
            return least;
        }

        private int usedLater(int cache, int line) {
            int use = lastUse[cache * LINES + line];
            int later = 0;
            for (int other = 0; other < LINES; other++) {
                int at = cache * LINES + other;
                if (kind[at] != NO_COPY && lastUse[at] > use) {
                    later++;
                }
            }
            return later;
        }

        int fact(int cache, int line, int what) {
            int at = cache * LINES + line;
            if (what == 0) {
                return kind[at];
            }
            if (kind[at] == NO_COPY) {
                return NONE;
            }
            switch (what) {
                case 1: return value[at];
                case 2: return slot[at];
                default: return usedLater(cache, line);
            }
        }
    }

    /** Which lines have a page, and which are marked as torn; what a page tells is read off the copies. */
    private static final class Diary {
        private final int[] lastUse = new int[LINES];
        private int uses;
        private int marks;
        int room;
        int pages;
        int timesAsked;
        int tornOut;

        void empty(int newRoom) {
            Arrays.fill(lastUse, 0);
            uses = 0;
            marks = 0;
            room = newRoom;
            pages = 0;
            timesAsked = 0;
            tornOut = 0;
        }

        void takeOver(Diary other) {
            System.arraycopy(other.lastUse, 0, lastUse, 0, LINES);
            uses = other.uses;
            marks = other.marks;
            room = other.room;
            pages = other.pages;
            timesAsked = other.timesAsked;
            tornOut = other.tornOut;
        }

        boolean hasPage(int line) {
            return lastUse[line] > 0;
        }

        boolean isMarked(int line) {
            return (marks >> line & 1) != 0;
        }

        /** The line whose page must go before another one is made; NONE if there is room. */
        int lineToTear() {
            if (pages < room) {
                return NONE;
            }
            int least = NONE;
            int leastUse = 0;
            for (int line = 0; line < LINES; line++) {
                if (lastUse[line] > 0 && (least == NONE || lastUse[line] < leastUse)) {
                    least = line;
                    leastUse = lastUse[line];
                }
            }
            return least;
        }

        void tearOut(int line, boolean tellsOfCopies) {
            lastUse[line] = 0;
            pages--;
            tornOut++;
            if (tellsOfCopies) {
                marks |= 1 << line;
            }
        }

        /** Makes a page about a line that has none; all caches are asked if the line is marked. */
        void makePage(int line) {
            if (isMarked(line)) {
                timesAsked++;
                marks &= ~(1 << line);
            }
            pages++;
            use(line);
        }

        void use(int line) {
            uses++;
            lastUse[line] = uses;
        }
    }

    /** The pending request of each cache. */
    private static final class Requests {
        final int[] line = new int[MAX_CACHES];
        final int[] value = new int[MAX_CACHES];
        final int[] putOff = new int[MAX_CACHES];

        void forgetAll() {
            Arrays.fill(line, NONE);
        }

        void takeOver(Requests other) {
            System.arraycopy(other.line, 0, line, 0, MAX_CACHES);
            System.arraycopy(other.value, 0, value, 0, MAX_CACHES);
            System.arraycopy(other.putOff, 0, putOff, 0, MAX_CACHES);
        }

        boolean isPending(int cache) {
            return line[cache] != NONE;
        }

        boolean isWrite(int cache) {
            return value[cache] != NONE;
        }

        /** A value of NONE asks for a read. */
        void ask(int cache, int newLine, int newValue) {
            line[cache] = newLine;
            value[cache] = newValue;
            putOff[cache] = 0;
        }

        void forget(int cache) {
            line[cache] = NONE;
        }

        int count() {
            int count = 0;
            for (int cache = 0; cache < MAX_CACHES; cache++) {
                if (line[cache] != NONE) {
                    count++;
                }
            }
            return count;
        }

        int fact(int cache, int what) {
            if (line[cache] == NONE) {
                return NONE;
            }
            switch (what) {
                case 0: return line[cache];
                case 1: return value[cache];
                default: return putOff[cache];
            }
        }
    }

    /** The requests that were served last, the latest first. */
    private static final class Log {
        private final int[] facts = new int[LOG_ROOM * ENTRY_FACTS];
        int count;

        void takeOver(Log other) {
            System.arraycopy(other.facts, 0, facts, 0, facts.length);
            count = other.count;
        }

        void add(int cache, int line, int write, int value, int messages, int tick) {
            for (int i = facts.length - 1; i >= ENTRY_FACTS; i--) {
                facts[i] = facts[i - ENTRY_FACTS];
            }
            facts[0] = cache;
            facts[1] = line;
            facts[2] = write;
            facts[3] = value;
            facts[4] = messages;
            facts[5] = tick;
            if (count < LOG_ROOM) {
                count++;
            }
        }

        int fact(int index, int what) {
            return facts[index * ENTRY_FACTS + what];
        }
    }

    /** The saved states, the oldest first. Their machines are used again, so that no call makes a new one. */
    private static final class History {
        private final Machine[] saved = new Machine[SAVED_ROOM];
        int count;

        History() {
            for (int i = 0; i < SAVED_ROOM; i++) {
                saved[i] = new Machine();
            }
        }

        void save(Machine now) {
            if (count >= SAVED_ROOM) {
                dropOldest();
            }
            saved[count].takeOver(now);
            count++;
        }

        private void dropOldest() {
            Machine oldest = saved[0];
            for (int i = 1; i < SAVED_ROOM; i++) {
                saved[i - 1] = saved[i];
            }
            saved[SAVED_ROOM - 1] = oldest;
            count--;
        }

        /** Only for a history that has a saved state. */
        void restore(Machine now) {
            count--;
            now.takeOver(saved[count]);
        }
    }

    /** A place in an order, with the digits and the range of the number that stands there, if one does. */
    private enum Place {
        KIND,
        CACHE,
        COLON,
        LINE(2, 0, 31),
        VALUE(3, 0, 999),
        TICKS(2, 1, 50);

        final int maxDigits;
        final int lowest;
        final int highest;

        Place() {
            this(0, 0, 0);
        }

        Place(int maxDigits, int lowest, int highest) {
            this.maxDigits = maxDigits;
            this.lowest = lowest;
            this.highest = highest;
        }
    }

    /** Reads a text byte by byte into the orders that it tells. */
    private static final class OrderReader {
        private static final int END = -1;

        final int[] cache = new int[MAX_ORDERS];
        final int[] line = new int[MAX_ORDERS];
        final int[] number = new int[MAX_ORDERS];
        int count;
        private Place place = Place.KIND;
        private boolean write;
        private int readCache;
        private int readLine;
        private int readNumber;
        private int digits;
        private int firstDigit;

        /** An order to let ticks pass is kept with NONE as its cache. */
        boolean isTicks(int order) {
            return cache[order] == NONE;
        }

        /** Returns the syntax error position; NONE if there is no error. */
        int readAll(byte[] text, int length) {
            count = 0;
            place = Place.KIND;
            for (int i = 0; i <= length; i++) {
                int sign = i < length && i < text.length ? text[i] : END;
                int error = take(sign, i);
                if (error != NONE) {
                    return error;
                }
            }
            return NONE;
        }

        private int take(int sign, int position) {
            if (place == Place.KIND) {
                return takeKind(sign) ? NONE : position;
            }
            if (place == Place.CACHE) {
                return takeCache(sign) ? NONE : position;
            }
            if (place == Place.COLON) {
                return takeColon(sign) ? NONE : position;
            }
            return takeOfNumber(sign, position);
        }

        private boolean takeKind(int sign) {
            if (sign == 't') {
                readCache = NONE;
                startNumber(Place.TICKS);
                return true;
            }
            if (sign == 'r' || sign == 'w') {
                write = sign == 'w';
                place = Place.CACHE;
                return true;
            }
            return sign == END;
        }

        private boolean takeCache(int sign) {
            if (sign < '0' || sign > '5') {
                return false;
            }
            readCache = sign - '0';
            place = Place.COLON;
            return true;
        }

        private boolean takeColon(int sign) {
            if (sign != ':') {
                return false;
            }
            startNumber(Place.LINE);
            return true;
        }

        private void startNumber(Place where) {
            place = where;
            readNumber = 0;
            digits = 0;
        }

        private int takeOfNumber(int sign, int position) {
            if (sign >= '0' && sign <= '9') {
                return takeDigit(sign - '0', position);
            }
            if (digits == 0) {
                return position;
            }
            if (readNumber < place.lowest || readNumber > place.highest) {
                return firstDigit;
            }
            boolean valueFollows = write && place == Place.LINE;
            if (sign != (valueFollows ? '=' : ';')) {
                return position;
            }
            if (place == Place.LINE) {
                readLine = readNumber;
            }
            if (valueFollows) {
                startNumber(Place.VALUE);
            } else {
                keepOrder();
            }
            return NONE;
        }

        private int takeDigit(int digit, int position) {
            if (digits == place.maxDigits) {
                return position;
            }
            if (digits == 0) {
                firstDigit = position;
            }
            readNumber = readNumber * 10 + digit;
            digits++;
            return NONE;
        }

        private void keepOrder() {
            // The shortest order has three bytes, so a text of 100 never fills the rows.
            if (count < MAX_ORDERS) {
                cache[count] = readCache;
                line[count] = readLine;
                number[count] = place == Place.LINE ? NONE : readNumber;
                count++;
            }
            place = Place.KIND;
        }
    }
}
