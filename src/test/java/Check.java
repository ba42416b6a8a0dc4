import java.util.NoSuchElementException;

/** Counts what is as due, and prints what is not. */
final class Check {
    /** A call that may throw. */
    interface Call {
        long get();
    }

    private final String name;
    private int passed;
    private int failed;

    Check(String name) {
        this.name = name;
    }

    void due(String what, long got, long want) {
        if (got == want) {
            passed++;
        } else {
            failed++;
            System.out.println(name + ": " + what + " answered " + got + ", due is " + want);
        }
    }

    void due(String what, boolean got, boolean want) {
        due(what, got ? 1 : 0, want ? 1 : 0);
    }

    /** The call must throw just a NoSuchElementException. */
    void missing(String what, Call call) {
        long got;
        try {
            got = call.get();
        } catch (NoSuchElementException e) {
            due(what, e.getClass() == NoSuchElementException.class, true);
            return;
        }
        failed++;
        System.out.println(name + ": " + what + " answered " + got + ", due is a NoSuchElementException");
    }

    /** The ROW must have just these numbers. */
    void row(String what, HotThrough x, long... want) {
        due(what + ", numbers of the row", x.count(10), want.length);
        for (int i = 0; i < want.length && i < x.count(10); i++) {
            due(what + ", row " + i, x.row(i), want[i]);
        }
        missing(what + ", row(" + want.length + ")", () -> x.row(want.length));
        missing(what + ", row(-1)", () -> x.row(-1));
    }

    /** Puts a text into an object. */
    static void text(HotThrough x, String text) {
        int length = text.length();
        int before = x.count(11);
        for (int i = 0; i < length; i += 4) {
            int v = 0;
            for (int k = i; k < i + 4; k++) {
                v = v << 8 | (k < length ? text.charAt(k) : 0);
            }
            if (x.sign(v) == HotThrough.NONE) {
                throw new IllegalStateException("too long a text: " + text);
            }
        }
        if (!x.end(before + length)) {
            throw new IllegalStateException("the text can't be cut");
        }
    }

    static int kitchen(HotThrough x, String text) {
        text(x, text);
        return x.kitchen();
    }

    static int rule(HotThrough x, String text) {
        text(x, text);
        return x.rule();
    }

    static int dinner(HotThrough x, String text) {
        text(x, text);
        return x.dinner();
    }

    /** A new object with a kitchen told in some texts. */
    static HotThrough told(String... texts) {
        HotThrough x = new HotThrough();
        for (String text : texts) {
            if (kitchen(x, text) < 0) {
                throw new IllegalStateException("no such kitchen: " + text);
            }
        }
        return x;
    }

    /** All that can be asked of an object without telling it anything. */
    static String all(HotThrough x) {
        StringBuilder s = new StringBuilder();
        for (int what = 0; what <= 11; what++) {
            s.append(x.count(what)).append(' ');
        }
        for (int p = 0; p < x.count(0); p++) {
            s.append("place ").append(p);
            for (int what = 0; what <= 3; what++) {
                s.append(' ').append(x.place(p, what));
            }
        }
        for (int w = 0; w < x.count(1); w++) {
            s.append(" way ").append(w);
            for (int what = 0; what <= 3; what++) {
                s.append(' ').append(x.way(w, what));
            }
        }
        for (int p = 0; p < x.count(2); p++) {
            s.append(" pot ").append(p);
            for (int what = 0; what <= 4; what++) {
                s.append(' ').append(x.pot(p, what));
            }
        }
        for (int p = 0; p < x.count(3); p++) {
            s.append(" person ").append(p);
            for (int what = 0; what <= 8; what++) {
                s.append(' ').append(x.person(p, what));
            }
        }
        s.append(" row");
        for (int i = 0; i < x.count(10); i++) {
            s.append(' ').append(x.row(i));
        }
        return s.toString();
    }

    /** POTS, PEOPLE, doors and NOW. */
    static String state(HotThrough x) {
        StringBuilder s = new StringBuilder();
        s.append(x.count(4)).append(' ').append(x.count(5)).append(' ').append(x.count(6)).append(' ').append(x.count(7));
        for (int p = 0; p < x.count(2); p++) {
            for (int what = 0; what <= 4; what++) {
                s.append(' ').append(x.pot(p, what));
            }
        }
        for (int p = 0; p < x.count(3); p++) {
            for (int what = 0; what <= 7; what++) {
                s.append(' ').append(x.person(p, what));
            }
        }
        return s.toString();
    }

    /** The call must answer so, and nothing that can be asked may be another than ahead of it. */
    void leaves(String what, HotThrough x, Call call, long want) {
        String before = all(x);
        due(what, call.get(), want);
        String after = all(x);
        if (before.equals(after)) {
            passed++;
        } else {
            failed++;
            System.out.println(name + ": " + what + " changed\n  " + before + "\n  to\n  " + after);
        }
    }

    /** Prints the sum; ends the program with code 1 if something was not as due. */
    void finish() {
        System.out.println(name + ": " + passed + " checks as due, " + failed + " not");
        if (failed != 0 || passed == 0) {
            System.exit(1);
        }
    }
}
