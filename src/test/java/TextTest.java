/** Which texts are orders, and where the syntax errors stand (promise 22). */
public final class TextTest {
    public static void main(String[] args) {
        kinds();
        caches();
        lines();
        values();
        ticks();
        endings();
        fullText();
        everyByteBehindANumber();
        Check.close();
    }

    private static void answers(String text, int want) {
        CacheDiary x = new CacheDiary();
        for (int i = 0; i < text.length(); i++) {
            x.append(text.charAt(i));
        }
        Check.due("the text " + text, want, () -> x.carryOut());
        if (want < 0) {
            Check.noState("nothing is saved for " + text, () -> x.undo());
        } else {
            Check.due("one state is saved for " + text, 0, () -> x.undo());
        }
    }

    private static void errs(String text, int position) {
        answers(text, -10 - position);
    }

    private static void kinds() {
        answers("", 0);
        errs("x", 0);
        errs(";", 0);
        errs(" ", 0);
        errs("0", 0);
        errs("R0:0;", 0);
        errs("t1;;", 3);
        errs("t1; t1;", 3);
        errs("r0:1;x", 5);
    }

    private static void caches() {
        answers("r0:0;", 1);
        answers("r2:0;", 1);
        answers("r3:0;", 0);
        answers("r5:0;", 0);
        errs("r6:0;", 1);
        errs("r66", 1);
        errs("r9", 1);
        errs("r:0;", 1);
        errs("r00:0;", 2);
        errs("r0;", 2);
        errs("r0=0;", 2);
        errs("w/:0=0;", 1);
    }

    private static void lines() {
        answers("r0:31;", 1);
        answers("r0:00;", 1);
        answers("w0:09=1;", 1);
        errs("r0:;", 3);
        errs("r0:x;", 3);
        errs("r0:-1;", 3);
        errs("r0:32;", 3);
        errs("r0:99;", 3);
        errs("r0:32", 3);
        errs("r0:32x", 3);
        errs("r0:32=", 3);
        errs("r0:320;", 5);
        errs("r0:001;", 5);
        errs("r0:1=5;", 4);
        errs("r0:1x", 4);
        errs("w0:1;", 4);
        errs("w0:32=5;", 3);
        errs("w0:32;", 3);
        errs("w0:100=5;", 5);
        errs("t1;r0:40;", 6);
    }

    private static void values() {
        answers("w0:1=0;", 1);
        answers("w0:1=999;", 1);
        answers("w0:1=000;", 1);
        answers("w0:1=07;", 1);
        errs("w0:1=;", 5);
        errs("w0:1=x", 5);
        errs("w0:1==", 5);
        errs("w0:1=1000;", 8);
        errs("w0:1=0001;", 8);
        errs("w0:1=12=", 7);
        errs("w0:31=12x", 8);
    }

    private static void ticks() {
        answers("t1;", 1);
        answers("t50;", 1);
        answers("t05;", 1);
        errs("t0;", 1);
        errs("t00;", 1);
        errs("t51;", 1);
        errs("t99x", 1);
        errs("t000;", 3);
        errs("t100;", 3);
        errs("t;", 1);
        errs("t:1;", 1);
        errs("t5:", 2);
        errs("t0", 1);
    }

    private static void endings() {
        errs("r", 1);
        errs("r0", 2);
        errs("r0:", 3);
        errs("r0:1", 4);
        errs("r0:31", 5);
        errs("w0:1", 4);
        errs("w0:1=", 5);
        errs("w0:1=9", 6);
        errs("w0:1=999", 8);
        errs("t", 1);
        errs("t5", 2);
        errs("t50", 3);
        errs("t1;t", 4);
    }

    private static void fullText() {
        StringBuilder orders = new StringBuilder();
        for (int i = 0; i < 33; i++) {
            orders.append("t1;");
        }
        answers(orders.toString(), 33);
        errs(orders + "t", 100);
        errs(orders + "1", 99);
        answers(orders.substring(3) + "t01;", 33);
    }

    /** The error of a number out of its range is found whichever byte follows, but for a digit. */
    private static void everyByteBehindANumber() {
        for (int b = 0; b <= 127; b++) {
            char sign = (char) b;
            boolean digit = sign >= '0' && sign <= '9';
            errs("r0:32" + sign, digit ? 5 : 3);
            errs("w2:32" + sign, digit ? 5 : 3);
            errs("t51" + sign, digit ? 3 : 1);
            errs("t0" + sign, digit && sign != '0' ? 3 : 1);
            if (sign == ';') {
                answers("w0:1=9" + sign, 1);
            } else {
                errs("w0:1=9" + sign, digit ? 7 : 6);
            }
            errs("" + sign, sign == 'r' || sign == 'w' || sign == 't' ? 1 : 0);
        }
    }
}
