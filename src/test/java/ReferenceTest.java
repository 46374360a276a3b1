import java.util.ArrayList;
import java.util.List;

/** Long runs of calls, drawn by a fixed rule, on CacheDiary and on Reference at once. */
public final class ReferenceTest {
    private static final int RUNS = 1000;
    private static final int CALLS = 250;
    private static final int[] STRANGE = {-1, 32, 6, 1000, 128, 101, Integer.MIN_VALUE, Integer.MAX_VALUE, 1 << 16, -32};

    private long seed;
    private int lines;
    private CacheDiary real;
    private Reference plain;
    private final List<String> calls = new ArrayList<>();

    public static void main(String[] args) {
        ReferenceTest test = new ReferenceTest();
        for (int run = 0; run < RUNS && Check.failed < 5; run++) {
            test.run(run);
        }
        Check.close();
    }

    private int draw(int bound) {
        seed = seed * 6364136223846793005L + 1442695040888963407L;
        return (int) ((seed >>> 33) % bound);
    }

    /** Mostly a number from 0 to bound - 1, now and then one that is out of all bounds. */
    private int number(int bound) {
        return draw(60) == 0 ? STRANGE[draw(STRANGE.length)] : draw(bound);
    }

    private void both(String name, Check.Call ofReal, Check.Call ofPlain) {
        calls.add(name);
        String want = Check.answerOf(ofPlain);
        String got = Check.answerOf(ofReal);
        if (got.equals(want)) {
            Check.passed++;
            return;
        }
        Check.failed++;
        System.out.println(name + " answered " + got + ", due is " + want + "; the run was " + calls);
    }

    private void run(int number) {
        seed = number;
        calls.clear();
        real = new CacheDiary();
        plain = new Reference();
        lines = 2 + draw(9);
        if (draw(4) > 0) {
            int c = 2 + draw(5);
            int s = 1 + draw(4);
            int p = 1 + draw(6);
            both("begin(" + c + ", " + s + ", " + p + ")", () -> real.begin(c, s, p), () -> plain.begin(c, s, p));
        }
        int before = Check.failed;
        for (int i = 0; i < CALLS && Check.failed == before; i++) {
            call();
            both("digest()", () -> real.digest(), () -> plain.digest());
        }
    }

    private int someLine() {
        return draw(8) == 0 ? number(32) : number(lines);
    }

    private void call() {
        int kind = draw(40);
        int c = number(6);
        int l = someLine();
        int v = number(1000);
        boolean w = draw(2) == 0;
        if (kind < 8) {
            both("read(" + c + ", " + l + ")", () -> real.read(c, l), () -> plain.read(c, l));
        } else if (kind < 16) {
            both("write(" + c + ", " + l + ", " + v + ")", () -> real.write(c, l, v), () -> plain.write(c, l, v));
        } else if (kind < 24) {
            int t = draw(10) == 0 ? number(101) : 1 + draw(2);
            both("pass(" + t + ")", () -> real.pass(t), () -> plain.pass(t));
        } else if (kind < 26) {
            both("drop(" + c + ", " + l + ")", () -> real.drop(c, l), () -> plain.drop(c, l));
        } else if (kind == 26) {
            both("tear(" + l + ")", () -> real.tear(l), () -> plain.tear(l));
        } else if (kind == 27) {
            both("takeBack(" + c + ")", () -> real.takeBack(c), () -> plain.takeBack(c));
        } else if (kind == 28) {
            both("undo()", () -> real.undo(), () -> plain.undo());
        } else if (kind == 29) {
            orders();
        } else if (kind < 36) {
            ifAsked(kind, c, l, w);
        } else {
            values(c, l);
        }
    }

    private void ifAsked(int kind, int c, int l, boolean w) {
        switch (kind) {
            case 30:
                both("cost(" + c + ", " + l + ", " + w + ")", () -> real.cost(c, l, w), () -> plain.cost(c, l, w));
                break;
            case 31:
                both("cheapest(" + l + ", " + w + ")", () -> real.cheapest(l, w), () -> plain.cheapest(l, w));
                break;
            case 32:
                both("ticksToServe()", () -> real.ticksToServe(), () -> plain.ticksToServe());
                break;
            case 33:
                both("nextTorn()", () -> real.nextTorn(), () -> plain.nextTorn());
                break;
            case 34:
                both("nextDropped(" + c + ")", () -> real.nextDropped(c), () -> plain.nextDropped(c));
                break;
            default:
                both("hitRate()", () -> real.hitRate(), () -> plain.hitRate());
        }
    }

    private void values(int c, int l) {
        int what = number(15);
        int i = number(13);
        switch (draw(6)) {
            case 0:
                both("copy(" + c + ", " + l + ", " + what % 5 + ")", () -> real.copy(c, l, what % 5), () -> plain.copy(c, l, what % 5));
                break;
            case 1:
                both("line(" + l + ", " + what % 9 + ")", () -> real.line(l, what % 9), () -> plain.line(l, what % 9));
                break;
            case 2:
                both("pending(" + c + ", " + what % 4 + ")", () -> real.pending(c, what % 4), () -> plain.pending(c, what % 4));
                break;
            case 3:
                both("entry(" + i + ", " + what % 7 + ")", () -> real.entry(i, what % 7), () -> plain.entry(i, what % 7));
                break;
            case 4:
                both("value(" + what + ")", () -> real.value(what), () -> plain.value(what));
                break;
            default:
                if (draw(10) == 0) {
                    int p = number(18);
                    int s = number(10);
                    both("begin(" + c + ", " + s + ", " + p + ")", () -> real.begin(c, s, p), () -> plain.begin(c, s, p));
                }
        }
    }

    private void orders() {
        if (draw(3) > 0) {
            both("clearText()", () -> real.clearText(), () -> plain.clearText());
        }
        String text = someText();
        for (int i = 0; i < text.length(); i++) {
            int b = text.charAt(i);
            both("append(" + b + ")", () -> real.append(b), () -> plain.append(b));
        }
        both("carryOut()", () -> real.carryOut(), () -> plain.carryOut());
    }

    private String someText() {
        StringBuilder text = new StringBuilder();
        int orders = draw(6);
        for (int i = 0; i < orders; i++) {
            int kind = draw(3);
            if (kind == 0) {
                text.append('t').append(draw(20) == 0 ? draw(60) : 1 + draw(2));
            } else {
                text.append(kind == 1 ? 'r' : 'w').append(draw(12) == 0 ? draw(8) : draw(3)).append(':');
                text.append(draw(3) == 0 ? "0" : "").append(draw(12) == 0 ? draw(40) : draw(10));
                if (kind == 2) {
                    text.append('=').append(draw(12) == 0 ? draw(1100) : draw(1000));
                }
            }
            text.append(';');
        }
        if (draw(3) == 0 && text.length() > 0) {
            int at = draw(text.length());
            String signs = "rwt0123456789:=; x";
            switch (draw(3)) {
                case 0:
                    text.deleteCharAt(at);
                    break;
                case 1:
                    text.insert(at, signs.charAt(draw(signs.length())));
                    break;
                default:
                    text.setLength(at);
            }
        }
        return text.toString();
    }
}
