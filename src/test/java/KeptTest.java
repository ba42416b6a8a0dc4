/** Promises 34 to 41: marks, dinners drawn by a seed, what is kept, counts, the row. */
public final class KeptTest {
    private static final Check CHECK = new Check("KeptTest");

    public static void main(String[] args) {
        marks();
        fitting();
        fittingByPlaceNought();
        fittingMarks();
        fittingMany();
        dinners();
        keeping();
        counting();
        rows();
        refusals();
        CHECK.finish();
    }

    private static void marks() {
        HotThrough x = Check.told("f;f;wab1;h9@a");
        CHECK.due("wipe nothing", x.wipe(), 0);
        CHECK.due("no place", x.mark(2, 0), -1);
        CHECK.due("place -1", x.mark(-1, 0), -1);
        CHECK.due("n -1", x.mark(0, -1), -1);
        CHECK.due("n 301", x.mark(0, 301), -1);
        CHECK.due("none yet", x.count(9), 0);
        CHECK.due("n 300", x.mark(0, 300), 1);
        for (int k = 2; k <= 8; k++) {
            CHECK.due("mark " + k, x.mark(1, 0), k);
        }
        CHECK.due("a ninth", x.mark(1, 0), -1);
        CHECK.due("eight", x.count(9), 8);
        x.change(0);
        x.undo();
        Check.kitchen(x, "f");
        x.keep(0);
        CHECK.due("still eight", x.count(9), 8);
        CHECK.due("wiped", x.wipe(), 8);
        x.again(0);
        CHECK.due("none", x.count(9), 0);
        CHECK.due("one anew", x.mark(2, 1), 1);
    }

    private static void fitting() {
        HotThrough x = Check.told("f;f;f;f;f;wab1;wbc1;wac1;wcd1;wac2;wbd9!");
        CHECK.due("three", x.fits(0, 3), 3);
        CHECK.row("of all the least", x, 0, 1, 2, 3);
        x.door(5, 1);
        CHECK.due("by the door, too", x.fits(0, 3), 6);
        CHECK.row("0 1 2 3 is less than 0 1 3", x, 0, 1, 2, 3);
        CHECK.due("from d", x.fits(3, 0), 6);
        CHECK.row("from d", x, 3, 1, 0);
        CHECK.due("none", x.fits(0, 4), 0);
        CHECK.row("none", x);
        CHECK.due("like ones", x.fits(0, 0), -1);
        CHECK.due("no place", x.fits(0, 5), -1);
        CHECK.due("no place at first", x.fits(5, 0), -1);
        CHECK.due("place -1", x.fits(-1, 0), -1);
        CHECK.due("to place -1", x.fits(0, -1), -1);
        CHECK.row("the row stays", x);
    }

    /** A way that is in the middle of all, on a new object. */
    private static void fittingByPlaceNought() {
        HotThrough x = Check.told("f;f;f;wab1;wac2;wbc9");
        CHECK.due("by a, or not", x.fits(1, 2), 2);
        CHECK.row("by a, or not", x, 1, 0, 2);
        x.mark(0, 1);
        CHECK.due("by a", x.fits(1, 2), 1);
        CHECK.due("once more", x.fits(1, 2), 1);
    }

    private static void fittingMarks() {
        HotThrough x = Check.told("f;f;f;f;f;wab1;wbc1;wac1;wcd1;wac2;wbd9!");
        x.mark(3, 3);
        CHECK.due("a b c d, or a c d", x.fits(0, 3), 2);
        CHECK.row("a b c d, or a c d", x, 0, 1, 2, 3);
        x.mark(2, 2);
        CHECK.due("at c behind 2", x.fits(0, 3), 2);
        x.mark(1, 1);
        CHECK.due("at b behind 1", x.fits(0, 3), 1);
        CHECK.row("at b behind 1", x, 0, 1, 2, 3);
        x.mark(0, 0);
        CHECK.due("it began at a", x.fits(0, 3), 1);
        CHECK.due("not at d", x.fits(3, 0), 0);
        CHECK.row("not at d", x);
        x.mark(1, 2);
        CHECK.due("at b twice", x.fits(0, 3), 0);
        x.wipe();
        x.mark(0, 1);
        CHECK.due("it did not come to a behind 1", x.fits(0, 3), 0);
        x.wipe();
        x.mark(4, 0);
        CHECK.due("it never came to e", x.fits(0, 3), 0);
        x.wipe();
        x.mark(2, 2);
        x.mark(2, 2);
        CHECK.due("the same told twice", x.fits(0, 3), 2);
        x.wipe();
        x.mark(3, 2);
        CHECK.due("the short one", x.fits(0, 3), 1);
        CHECK.row("the short one", x, 0, 2, 3);
    }

    private static void fittingMany() {
        HotThrough x = Check.told("f;f;f;f;f;f;f;f");
        Check.kitchen(x, "wab1;wab1;wbc1;wbc1;wcd1;wcd1;wde1;wde1;wef1;wef1;wfg1;wfg1;wgh1;wgh1");
        CHECK.due("two to the seventh", x.fits(0, 7), 128);
        CHECK.row("all of them are alike", x, 0, 1, 2, 3, 4, 5, 6, 7);
        HotThrough y = Check.told("f;f;f;f;f;f;f;f;f;f;wab9;wbc9;wcd9;wde9;wef9;wfg9;wgh9;whi9;wij9");
        y.mark(9, 81);
        CHECK.due("the longest", y.fits(0, 9), 1);
        CHECK.row("the longest", y, 0, 1, 2, 3, 4, 5, 6, 7, 8, 9);
    }

    private static void dinners() {
        HotThrough x = Check.told("b;f;f;wab1;p100-0@a;p990-0@a;h50@a;h50@a");
        CHECK.due("holds none", x.dinners(0, 1, 1, 1), -1);
        x.take(0, 0);
        Check.rule(x, "(h>200)*51");
        int drawn = 7;
        int good = 0;
        int greatest = -1;
        int least = -1;
        for (int k = 0; k < 50; k++) {
            drawn = drawn * 1103515245 + 12345;
            int heat = 100 + (drawn >>> 16) % 200;
            if (heat <= 200) {
                good++;
                greatest = Math.max(greatest, heat);
            } else {
                least = least < 0 ? heat : Math.min(least, heat);
            }
        }
        CHECK.due("fifty", x.dinners(0, 1, 7, 50), good);
        CHECK.row("fifty", x, greatest, least);
        // 1103527590 = 16838 * 65536 + 32422; 16838 % 200 is 38
        CHECK.due("one", x.dinners(0, 1, 1, 1), 1);
        CHECK.row("one", x, 138, -1);
        // 12345 - 1103515245 without sign is 3191464396: by 65536 48697
        CHECK.due("a seed below 0", x.dinners(0, 1, -1, 1), 1);
        CHECK.row("a seed below 0", x, 197, -1);
        Check.rule(x, "51");
        CHECK.due("burnt", x.dinners(0, 1, 1, 1), 0);
        CHECK.row("burnt", x, -1, 138);
        CHECK.due("where it is", x.dinners(0, 0, 1, 1), 1);
        CHECK.row("where it is", x, 138, -1);
        CHECK.due("no path", x.dinners(0, 2, 1, 1), -2);
        CHECK.row("the row stays", x, 138, -1);
        CHECK.due("n 0", x.dinners(0, 1, 1, 0), -1);
        CHECK.due("n 51", x.dinners(0, 1, 1, 51), -1);
        CHECK.due("no place", x.dinners(0, 3, 1, 1), -1);
        CHECK.due("nobody", x.dinners(2, 1, 1, 1), -1);
        x.take(1, 1);
        Check.rule(x, "h/20");
        CHECK.due("999 at most", x.dinners(1, 1, 1, 9), 9);
        CHECK.row("999 at most", x, 999, -1);
        CHECK.due("now", x.count(4), 0);
        CHECK.due("heat", x.pot(0, 0), 100);
    }

    private static void keeping() {
        HotThrough x = Check.told("b;f;wab1!;p100-5@a;h50@a");
        Check.rule(x, "30");
        CHECK.due("nothing kept", x.again(0), false);
        CHECK.due("keep 3", x.keep(3), false);
        CHECK.due("keep -1", x.keep(-1), false);
        CHECK.due("again 3", x.again(3), false);
        CHECK.due("again -1", x.again(-1), false);
        CHECK.due("keep 2", x.keep(2), true);
        x.take(0, 0);
        x.fold(0, 5);
        x.door(0, 1);
        CHECK.due("keep 0", x.keep(0), true);
        x.pass(2);
        x.change(0);
        CHECK.due("burnt", x.count(7), 1);
        CHECK.due("five acts", x.count(8), 5);
        CHECK.due("1 is not kept", x.again(1), false);
        CHECK.due("refused: they can be undone", x.count(8), 5);
        CHECK.due("again 0", x.again(0), true);
        CHECK.due("none can be undone", x.count(8), 0);
        CHECK.due("nor is", x.undo(), -1);
        CHECK.due("now", x.count(4), 0);
        CHECK.due("burnt", x.count(7), 0);
        CHECK.due("it holds it", x.person(0, 6), 0);
        CHECK.due("fold", x.person(0, 5), 5);
        CHECK.due("hand", x.person(0, 4), 0);
        CHECK.due("open", x.count(5), 1);
        CHECK.due("heat", x.pot(0, 0), 100);
        CHECK.due("again 2", x.again(2), true);
        CHECK.due("it holds none", x.person(0, 6), -1);
        CHECK.due("shut", x.count(5), 0);
        CHECK.due("again 0, once more", x.again(0), true);
        CHECK.due("a wrong kitchen", Check.kitchen(x, "q"), -1);
        x.kitchen();
        CHECK.due("nothing came", x.again(0), true);
        Check.kitchen(x, "f");
        CHECK.due("something came", x.again(0), false);
        CHECK.due("for 2, too", x.again(2), false);
        CHECK.due("kept anew", x.keep(0), true);
        CHECK.due("again", x.again(0), true);
        Check.rule(x, "2");
        x.pass(1);
        CHECK.due("the rule is not kept", x.again(0), true);
        CHECK.due("two", x.person(0, 8), 2);
    }

    private static void counting() {
        HotThrough x = Check.told("b;f;b;wab1!;wab1!;p9-0@a;p8-0@a;h5@a;h5@a;h5@a;h5@b");
        int[] due = {3, 2, 2, 4, 0, 0, 0, 0, 0, 0, 0, 0};
        for (int what = 0; what < due.length; what++) {
            CHECK.due("count(" + what + ")", x.count(what), due[what]);
        }
        x.door(1, 1);
        x.take(1, 1);
        x.take(2, 0);
        Check.rule(x, "6");
        x.pass(4);
        x.mark(0, 3);
        x.sign(0);
        int[] then = {3, 2, 2, 4, 4, 2, 3, 2, 4, 1, 2, 4};
        for (int what = 0; what < then.length; what++) {
            CHECK.due("then count(" + what + ")", x.count(what), then[what]);
        }
        CHECK.due("count(12)", x.count(12), -100);
        CHECK.due("count(-1)", x.count(-1), -100);
        CHECK.due("count of the greatest", x.count(Integer.MAX_VALUE), -100);
        CHECK.due("count of the least", x.count(Integer.MIN_VALUE), -100);
    }

    private static void rows() {
        HotThrough x = Check.told("f;f;f;wab1;wbc2;h9@a");
        CHECK.row("none", x);
        x.path(0, 2);
        CHECK.row("three", x, 0, 1, 2);
        x.fold(0, 1);
        x.count(4);
        x.undo();
        x.mark(0, 0);
        x.keep(0);
        x.again(0);
        Check.kitchen(x, "f");
        CHECK.row("others leave it", x, 0, 1, 2);
        CHECK.missing("row(3)", () -> x.row(3));
        CHECK.missing("row of the greatest", () -> x.row(Integer.MAX_VALUE));
        CHECK.missing("row of the least", () -> x.row(Integer.MIN_VALUE));
        x.pass(1);
        CHECK.row("two", x, 0, 0);
    }

    /** Each call with wrong numbers of all kinds: nothing changes. */
    private static void refusals() {
        HotThrough x = Check.told("b;t;wab1!;p9-0@a;p9-0@b;h9@a;h9@b");
        x.take(0, 0);
        x.pass(1);
        int[] wrong = {-1, 7, 31, 32, 99, 1000, Integer.MIN_VALUE, Integer.MAX_VALUE};
        for (int w : wrong) {
            long sum = 0;
            sum += x.take(w, 0) + x.down(w) + x.walk(w, 0) + x.change(w) + x.give(w, 0) + x.give(0, w);
            sum += x.fold(w, 1) + x.door(w, 1) + x.lasts(w) + x.swaps(w, 1) + x.often(w) + x.layers(w, 0, 1);
            sum += x.layers(0, w, 1) + x.hottest(w, 0, 1) + x.hottest(0, w, 1) + x.path(w, 0) + x.path(0, w);
            sum += x.clear(w, 0) + x.clear(0, w) + x.far(w, 0) + x.far(0, w) + x.rests(w, 0, 1);
            sum += x.rests(0, w, 1) + x.soonest(w, 0) + x.soonest(0, w) + x.chain(w, 0, 2) + x.chain(1, w, 2);
            sum += x.serve(w, 2, 1, 0) + x.serve(1, 2, w, 0) + x.mark(w, 0) + x.fits(w, 0) + x.fits(0, w);
            sum += x.dinners(w, 0, 1, 1) + x.dinners(0, w, 1, 1) + x.heat(w, 0);
            CHECK.due("sum of refusals of " + w, sum, -35);
            CHECK.due("keep " + w, x.keep(w) || x.again(w), false);
        }
        CHECK.due("acts", x.count(8), 2);
        CHECK.due("now", x.count(4), 1);
        CHECK.row("the row", x, 0, 0);
        CHECK.due("warm", x.person(0, 2), 9);
        CHECK.due("heat", x.pot(0, 0), 9);
    }
}
