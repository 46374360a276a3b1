import java.util.ArrayList;
import java.util.List;
import java.util.TreeSet;

/**
 * The document word by word, with lists in the order of use and pages that hold what they tell:
 * slow and plain, so that it errs elsewhere than CacheDiary does.
 */
final class Reference {
    static final class Copy {
        int line;
        int value;
        int slot;
        boolean owned;

        Copy again() {
            Copy c = new Copy();
            c.line = line;
            c.value = value;
            c.slot = slot;
            c.owned = owned;
            return c;
        }
    }

    static final class Page {
        int line;
        int owner = -1;
        TreeSet<Integer> sharers = new TreeSet<>();

        int told() {
            return sharers.size() + (owner < 0 ? 0 : 1);
        }

        Page again() {
            Page p = new Page();
            p.line = line;
            p.owner = owner;
            p.sharers = new TreeSet<>(sharers);
            return p;
        }
    }

    static final class Request {
        int line;
        int value;
        int putOff;
    }

    static final class State {
        int slots = 4;
        int room = 4;
        int time;
        int[] counts = new int[14];
        int[] memory = new int[32];
        int[] written = new int[32];
        TreeSet<Integer> marked = new TreeSet<>();
        /** For each cache its copies, the least recently used first. */
        List<List<Copy>> caches = new ArrayList<>();
        /** The least recently used page first. */
        List<Page> pages = new ArrayList<>();
        List<Request> pending = new ArrayList<>();
        /** The latest entry first. */
        List<int[]> log = new ArrayList<>();

        State(int n, int slots, int room) {
            this.slots = slots;
            this.room = room;
            for (int i = 0; i < n; i++) {
                caches.add(new ArrayList<>());
                pending.add(null);
            }
        }

        State again() {
            State s = new State(0, slots, room);
            s.time = time;
            s.counts = counts.clone();
            s.memory = memory.clone();
            s.written = written.clone();
            s.marked = new TreeSet<>(marked);
            for (List<Copy> cache : caches) {
                List<Copy> list = new ArrayList<>();
                for (Copy c : cache) {
                    list.add(c.again());
                }
                s.caches.add(list);
            }
            for (Page p : pages) {
                s.pages.add(p.again());
            }
            for (Request r : pending) {
                Request q = null;
                if (r != null) {
                    q = new Request();
                    q.line = r.line;
                    q.value = r.value;
                    q.putOff = r.putOff;
                }
                s.pending.add(q);
            }
            s.log.addAll(log);
            return s;
        }
    }

    private State now = new State(3, 4, 4);
    private final List<State> saved = new ArrayList<>();
    private String text = "";

    private static final int MESSAGES = 5;
    private static final int HITS = 6;
    private static final int MISSES = 7;
    private static final int RACES = 8;
    private static final int ASKED = 9;
    private static final int TORN = 10;
    private static final int TO_MEMORY = 11;

    private void save() {
        saved.add(now.again());
        if (saved.size() > 4) {
            saved.remove(0);
        }
    }

    private void cacheAndLine(int cache, int line) {
        if (cache < 0 || cache >= now.caches.size()) {
            throw new IndexOutOfBoundsException();
        }
        lineOnly(line);
    }

    private void lineOnly(int line) {
        if (line < 0 || line > 31) {
            throw new IndexOutOfBoundsException();
        }
    }

    private void range(int v, int lo, int hi) {
        if (v < lo || v > hi) {
            throw new IllegalArgumentException();
        }
    }

    private void state(boolean good) {
        if (!good) {
            throw new IllegalStateException();
        }
    }

    private static Copy find(State s, int cache, int line) {
        for (Copy c : s.caches.get(cache)) {
            if (c.line == line) {
                return c;
            }
        }
        return null;
    }

    private static Page page(State s, int line) {
        for (Page p : s.pages) {
            if (p.line == line) {
                return p;
            }
        }
        return null;
    }

    private static boolean hit(State s, int cache, int line, boolean write) {
        Copy c = find(s, cache, line);
        return c != null && (!write || c.owned);
    }

    /** Throws a copy away as for its slot; returns the messages. */
    private static int throwAway(State s, int cache, Copy c) {
        int sent = 0;
        if (c.owned) {
            s.memory[c.line] = c.value;
            s.counts[TO_MEMORY]++;
            sent = 1;
        }
        s.caches.get(cache).remove(c);
        Page p = page(s, c.line);
        if (p != null) {
            if (p.owner == cache) {
                p.owner = -1;
            }
            p.sharers.remove(cache);
        }
        return sent;
    }

    private static void tear(State s, Page p) {
        s.pages.remove(p);
        s.counts[TORN]++;
        if (p.told() > 0) {
            s.marked.add(p.line);
        }
    }

    private static Page truth(State s, int line) {
        Page p = new Page();
        p.line = line;
        for (int c = 0; c < s.caches.size(); c++) {
            Copy copy = find(s, c, line);
            if (copy != null && copy.owned) {
                p.owner = c;
            } else if (copy != null) {
                p.sharers.add(c);
            }
        }
        return p;
    }

    /** Serves a request (value -1: a read) and returns its messages. */
    private static int serve(State s, int cache, int line, int value) {
        boolean write = value >= 0;
        int sent = 0;
        if (hit(s, cache, line, write)) {
            s.counts[HITS]++;
        } else {
            s.counts[MISSES]++;
            sent = miss(s, cache, line, write);
        }
        Copy mine = find(s, cache, line);
        if (write) {
            mine.value = value;
            s.written[line] = value;
        }
        s.caches.get(cache).remove(mine);
        s.caches.get(cache).add(mine);
        s.counts[MESSAGES] += sent;
        s.log.add(0, new int[] {cache, line, write ? 1 : 0, mine.value, sent, s.time});
        if (s.log.size() > 12) {
            s.log.remove(12);
        }
        return sent;
    }

    private static int miss(State s, int cache, int line, boolean write) {
        int sent = 0;
        Page p = page(s, line);
        if (p != null) {
            sent++;
        } else {
            if (s.pages.size() == s.room) {
                tear(s, s.pages.get(0));
            }
            if (s.marked.contains(line)) {
                sent += s.caches.size() - 1;
                s.counts[ASKED]++;
                p = truth(s, line);
                s.marked.remove(line);
            } else {
                sent++;
                p = new Page();
                p.line = line;
            }
            s.pages.add(p);
        }
        if (p.owner >= 0) {
            Copy c = find(s, p.owner, line);
            s.memory[line] = c.value;
            s.counts[TO_MEMORY]++;
            sent += 2;
            if (write) {
                s.caches.get(p.owner).remove(c);
            } else {
                c.owned = false;
                p.sharers.add(p.owner);
            }
            p.owner = -1;
        }
        if (write) {
            for (int other : new ArrayList<>(p.sharers)) {
                if (other != cache) {
                    s.caches.get(other).remove(find(s, other, line));
                    p.sharers.remove(other);
                    sent++;
                }
            }
        }
        Copy mine = find(s, cache, line);
        if (mine == null) {
            List<Copy> copies = s.caches.get(cache);
            if (copies.size() == s.slots) {
                sent += throwAway(s, cache, copies.get(0));
            }
            mine = new Copy();
            mine.line = line;
            mine.value = s.memory[line];
            while (slotTaken(copies, mine.slot)) {
                mine.slot++;
            }
            copies.add(mine);
        }
        mine.owned = write;
        p.sharers.remove(cache);
        if (write) {
            p.owner = cache;
        } else {
            p.sharers.add(cache);
        }
        s.pages.remove(p);
        s.pages.add(p);
        return sent;
    }

    private static boolean slotTaken(List<Copy> copies, int slot) {
        for (Copy c : copies) {
            if (c.slot == slot) {
                return true;
            }
        }
        return false;
    }

    private static int tick(State s) {
        int n = s.caches.size();
        int served = 0;
        TreeSet<Integer> missed = new TreeSet<>();
        for (int i = 0; i < n; i++) {
            int cache = (s.time + i) % n;
            Request r = s.pending.get(cache);
            if (r == null) {
                continue;
            }
            boolean hit = hit(s, cache, r.line, r.value >= 0);
            if (!hit && !missed.add(r.line)) {
                r.putOff++;
                s.counts[RACES]++;
                continue;
            }
            serve(s, cache, r.line, r.value);
            s.pending.set(cache, null);
            served++;
        }
        s.time++;
        return served;
    }

    private static boolean anyPending(State s) {
        for (Request r : s.pending) {
            if (r != null) {
                return true;
            }
        }
        return false;
    }

    int begin(int caches, int slots, int pages) {
        range(caches, 2, 6);
        range(slots, 1, 8);
        range(pages, 1, 16);
        save();
        int time = now.time;
        now = new State(caches, slots, pages);
        return time;
    }

    int read(int cache, int line) {
        cacheAndLine(cache, line);
        state(now.pending.get(cache) == null);
        save();
        ask(cache, line, -1);
        return hit(now, cache, line, false) ? 1 : 0;
    }

    int write(int cache, int line, int value) {
        cacheAndLine(cache, line);
        range(value, 0, 999);
        state(now.pending.get(cache) == null);
        save();
        ask(cache, line, value);
        return hit(now, cache, line, true) ? 1 : 0;
    }

    private void ask(int cache, int line, int value) {
        Request r = new Request();
        r.line = line;
        r.value = value;
        now.pending.set(cache, r);
    }

    int takeBack(int cache) {
        cacheAndLine(cache, 0);
        state(now.pending.get(cache) != null);
        save();
        return now.pending.set(cache, null).line;
    }

    int pass(int ticks) {
        range(ticks, 1, 100);
        state(now.time + ticks <= 100000);
        save();
        return letPass(ticks);
    }

    private int letPass(int ticks) {
        int served = 0;
        for (int i = 0; i < ticks; i++) {
            served += tick(now);
        }
        return served;
    }

    int drop(int cache, int line) {
        cacheAndLine(cache, line);
        state(find(now, cache, line) != null);
        save();
        int sent = throwAway(now, cache, find(now, cache, line));
        now.counts[MESSAGES] += sent;
        return sent;
    }

    int tear(int line) {
        lineOnly(line);
        Page p = page(now, line);
        state(p != null);
        save();
        p = page(now, line);
        tear(now, p);
        return p.told();
    }

    int copy(int cache, int line, int what) {
        cacheAndLine(cache, line);
        range(what, 0, 3);
        Copy c = find(now, cache, line);
        if (c == null) {
            return what == 0 ? 0 : -1;
        }
        List<Copy> all = now.caches.get(cache);
        return new int[] {c.owned ? 2 : 1, c.value, c.slot, all.size() - 1 - all.indexOf(c)}[what];
    }

    private static int set(TreeSet<Integer> caches) {
        int set = 0;
        for (int c : caches) {
            set += 1 << c;
        }
        return set;
    }

    int line(int line, int what) {
        lineOnly(line);
        range(what, 0, 7);
        Page is = truth(now, line);
        Page told = page(now, line);
        int[] answers = {now.memory[line], now.written[line], is.owner, set(is.sharers), told == null ? 0 : 1,
            told == null ? -1 : told.owner, told == null ? -1 : set(told.sharers), now.marked.contains(line) ? 1 : 0};
        return answers[what];
    }

    int pending(int cache, int what) {
        cacheAndLine(cache, 0);
        range(what, 0, 2);
        Request r = now.pending.get(cache);
        return r == null ? -1 : new int[] {r.line, r.value, r.putOff}[what];
    }

    int entry(int index, int what) {
        if (index < 0 || index >= now.log.size()) {
            throw new IndexOutOfBoundsException();
        }
        range(what, 0, 5);
        return now.log.get(index)[what];
    }

    int value(int what) {
        range(what, 0, 13);
        int pending = 0;
        for (Request r : now.pending) {
            pending += r == null ? 0 : 1;
        }
        switch (what) {
            case 0: return now.caches.size();
            case 1: return now.slots;
            case 2: return now.room;
            case 3: return now.pages.size();
            case 4: return now.time;
            case 12: return pending;
            case 13: return now.log.size();
            default: return now.counts[what];
        }
    }

    int cost(int cache, int line, boolean write) {
        cacheAndLine(cache, line);
        return serve(now.again(), cache, line, write ? 0 : -1);
    }

    int nextTorn() {
        return now.pages.size() < now.room ? -1 : now.pages.get(0).line;
    }

    int nextDropped(int cache) {
        cacheAndLine(cache, 0);
        List<Copy> copies = now.caches.get(cache);
        return copies.size() < now.slots ? -1 : copies.get(0).line;
    }

    int ticksToServe() {
        State s = now.again();
        int ticks = 0;
        while (anyPending(s)) {
            tick(s);
            ticks++;
        }
        return ticks;
    }

    int cheapest(int line, boolean write) {
        lineOnly(line);
        int best = 0;
        for (int c = 1; c < now.caches.size(); c++) {
            if (cost(c, line, write) < cost(best, line, write)) {
                best = c;
            }
        }
        return best;
    }

    double hitRate() {
        double hits = now.counts[HITS];
        double all = now.counts[HITS] + now.counts[MISSES];
        return all == 0.0 ? 0.0 : hits / all;
    }

    int append(int value) {
        range(value, 0, 127);
        state(text.length() < 100);
        text += (char) value;
        return text.length();
    }

    int clearText() {
        int length = text.length();
        text = "";
        return length;
    }

    /** Reads a number at a place; returns the place behind it, or -10 minus the position of an error. */
    private int number(int at, int digits, int lo, int hi) {
        int end = at;
        while (end < text.length() && Character.isDigit(text.charAt(end))) {
            if (end - at == digits) {
                return -10 - end;
            }
            end++;
        }
        if (end == at) {
            return -10 - at;
        }
        int n = Integer.parseInt(text.substring(at, end));
        return n < lo || n > hi ? -10 - at : end;
    }

    private int sign(int at, String signs) {
        return at < text.length() && signs.indexOf(text.charAt(at)) >= 0 ? at + 1 : -10 - at;
    }

    /** Reads one order at a place; returns the place behind it, or -10 minus the position of an error. */
    private int order(int at) {
        int next = sign(at, "rwt");
        if (next < 0) {
            return next;
        }
        char kind = text.charAt(at);
        if (kind == 't') {
            next = number(next, 2, 1, 50);
            return next < 0 ? next : sign(next, ";");
        }
        next = sign(next, "012345");
        next = next < 0 ? next : sign(next, ":");
        next = next < 0 ? next : number(next, 2, 0, 31);
        if (kind == 'w') {
            next = next < 0 ? next : sign(next, "=");
            next = next < 0 ? next : number(next, 3, 0, 999);
        }
        return next < 0 ? next : sign(next, ";");
    }

    int carryOut() {
        List<String> orders = new ArrayList<>();
        int at = 0;
        while (at < text.length()) {
            int next = order(at);
            if (next < 0) {
                return next;
            }
            orders.add(text.substring(at, next - 1));
            at = next;
        }
        save();
        int done = 0;
        for (String order : orders) {
            if (!carryOutOne(order)) {
                break;
            }
            done++;
        }
        return done;
    }

    private boolean carryOutOne(String order) {
        if (order.charAt(0) == 't') {
            int ticks = Integer.parseInt(order.substring(1));
            if (now.time + ticks > 100000) {
                return false;
            }
            letPass(ticks);
            return true;
        }
        int cache = order.charAt(1) - '0';
        if (cache >= now.caches.size() || now.pending.get(cache) != null) {
            return false;
        }
        String[] parts = order.substring(3).split("=");
        ask(cache, Integer.parseInt(parts[0]), parts.length > 1 ? Integer.parseInt(parts[1]) : -1);
        return true;
    }

    int undo() {
        state(!saved.isEmpty());
        now = saved.remove(saved.size() - 1);
        return saved.size();
    }

    long digest() {
        List<Integer> values = new ArrayList<>();
        values.add(text.length());
        for (int what = 0; what <= 13; what++) {
            values.add(value(what));
        }
        for (int line = 0; line < 32; line++) {
            for (int what = 0; what <= 7; what++) {
                values.add(line(line, what));
            }
            for (int cache = 0; cache < now.caches.size(); cache++) {
                for (int what = 0; what <= 3; what++) {
                    values.add(copy(cache, line, what));
                }
            }
        }
        for (int cache = 0; cache < now.caches.size(); cache++) {
            for (int what = 0; what <= 2; what++) {
                values.add(pending(cache, what));
            }
        }
        for (int[] entry : now.log) {
            for (int v : entry) {
                values.add(v);
            }
        }
        values.add(nextTorn());
        values.add(saved.size());
        long h = 3677;
        for (int v : values) {
            h = 31 * h + v;
        }
        return h;
    }
}
