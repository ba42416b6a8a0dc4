/** Promises 27 to 33: paths, doors, carrying by them, resting, a line of people, and dishes. */
public final class WaysTest {
    private static final Check CHECK = new Check("WaysTest");

    public static void main(String[] args) {
        paths();
        clearing();
        farness();
        resting();
        restingLeastRow();
        restingMore();
        soonest();
        chains();
        chainsTimes();
        serving();
        servingOrder();
        CHECK.finish();
    }

    private static void paths() {
        HotThrough x = Check.told("f;f;f;f;f;wab2;wbd2;wac1;wcd3;wad4!;wde9!");
        CHECK.due("of equal ones the least row", x.path(0, 3), 4);
        CHECK.row("of equal ones the least row", x, 0, 1, 3);
        x.door(4, 1);
        CHECK.due("0 1 3 is less than 0 3", x.path(0, 3), 4);
        CHECK.row("0 1 3 is less than 0 3", x, 0, 1, 3);
        CHECK.due("back", x.path(3, 0), 4);
        CHECK.row("back: 3 0 is the least", x, 3, 0);
        CHECK.due("shut", x.path(0, 4), -2);
        CHECK.row("the row stays", x, 3, 0);
        CHECK.due("where it is", x.path(4, 4), 0);
        CHECK.row("where it is", x, 4);
        CHECK.due("no place 5", x.path(0, 5), -1);
        CHECK.due("no place -1", x.path(-1, 0), -1);
        CHECK.due("no place 5 at first", x.path(5, 0), -1);
        CHECK.due("to no place -1", x.path(0, -1), -1);
        x.door(5, 1);
        CHECK.due("open", x.path(2, 4), 12);
        CHECK.row("open", x, 2, 3, 4);
        HotThrough y = Check.told("f;f;f;f;f;f;f;f;f;f;waj9;wji9;wih9;whg9;wgf9;wfe9;wed9;wdc9;wcb9;wab9!;wab9!");
        CHECK.due("nine ways", y.path(0, 1), 81);
        CHECK.row("nine ways", y, 0, 9, 8, 7, 6, 5, 4, 3, 2, 1);
        y.door(10, 1);
        CHECK.due("one way", y.path(0, 1), 9);
        CHECK.row("one way", y, 0, 1);
    }

    private static void clearing() {
        HotThrough x = Check.told("f;f;f;f;wab5;wbd5;wac1!;wcd2!;wad3!;wad3!;wbc9!");
        CHECK.due("one of two doors", x.clear(0, 3), 1);
        CHECK.row("the least bits", x, 16, 3);
        x.door(5, 1);
        CHECK.due("one is open", x.clear(0, 3), 0);
        CHECK.row("one is open", x, 0, 3);
        x.door(5, 0);
        x.door(2, 1);
        CHECK.due("either one or one", x.clear(0, 3), 1);
        CHECK.row("way 3 is less than way 4", x, 8, 3);
        CHECK.due("without a door", x.clear(0, 1), 0);
        CHECK.row("without a door", x, 0, 5);
        x.door(2, 0);
        CHECK.due("two doors", x.clear(2, 1), 1);
        CHECK.row("by a: 1 and 5", x, 4, 6);
        CHECK.due("where it is", x.clear(1, 1), 0);
        CHECK.row("where it is", x, 0, 0);
        CHECK.due("no place", x.clear(0, 4), -1);
        CHECK.due("no place -1", x.clear(-1, 0), -1);
        CHECK.due("nothing is opened", x.count(5), 0);
        Check.kitchen(x, "f");
        CHECK.due("not even then", x.clear(0, 4), -2);
        CHECK.row("the row stays", x, 0, 0);
        HotThrough w = Check.told("f;f;f;f;f;f;f;f;f;f;wab9!;wbc9!;wcd9!;wde9!;wef9!;wfg9!");
        Check.kitchen(w, "wgh9!;whi9!;wij9!;wab9!");
        CHECK.due("nine doors", w.clear(0, 9), 9);
        CHECK.row("nine doors", w, 511, 81);
        w.door(9, 1);
        CHECK.due("eight doors", w.clear(9, 0), 8);
        CHECK.row("eight doors", w, 510, 81);
        HotThrough y = Check.told("f;f;f;wab1!;wbc1!;wac2!");
        CHECK.due("fewest steps first, then doors", y.clear(0, 2), 1);
        CHECK.row("fewest steps first, then doors", y, 4, 2);
        HotThrough z = Check.told("f;f;f;wab1!;wbc1!;wac3");
        CHECK.due("fewer steps by two doors", z.clear(0, 2), 2);
        CHECK.row("fewer steps by two doors", z, 3, 2);
    }

    private static void farness() {
        HotThrough x = Check.told("b;f;f;t;f;wab2;wbc3;wcd2;p100-0@a;p9-0@a;h30@a;h50@a");
        Check.rule(x, "6");
        CHECK.due("holds none", x.far(0, 3), -1);
        x.take(0, 0);
        CHECK.due("burnt in the sixth second", x.far(0, 3), 2);
        CHECK.row("burnt in the sixth second", x, 0, 5);
        CHECK.due("unburnt", x.far(0, 2), 2);
        CHECK.row("unburnt", x, 1, 5);
        CHECK.due("where it is", x.far(0, 0), 0);
        CHECK.row("where it is", x, 1, 0);
        CHECK.due("no path", x.far(0, 4), -2);
        CHECK.row("the row stays", x, 1, 0);
        Check.rule(x, "31");
        CHECK.due("at once", x.far(0, 3), 0);
        CHECK.row("at once", x, 0, 0);
        Check.rule(x, "10");
        CHECK.due("between", x.far(0, 3), 1);
        CHECK.row("between", x, 0, 3);
        CHECK.due("no place", x.far(0, 5), -1);
        CHECK.due("no place -1", x.far(0, -1), -1);
        CHECK.due("nobody", x.far(2, 3), -1);
        CHECK.due("now", x.count(4), 0);
    }

    private static void resting() {
        HotThrough x = Check.told("b;b;f;t;f;f;wab2;wbc2;wcd2;wde2;p100-0@a;h30@a");
        Check.rule(x, "6");
        CHECK.due("holds none", x.rests(0, 4, 1), -1);
        x.take(0, 0);
        // 12 at b, 24 at c, 36: burnt ahead of d, if it does not rest at b: 3, then 27 at d, 39
        CHECK.due("two rests", x.rests(0, 4, 10), 2);
        CHECK.row("two rests", x, 1, 3);
        CHECK.due("one rest", x.rests(0, 3, 3), 1);
        CHECK.row("one rest", x, 1);
        CHECK.due("none", x.rests(0, 2, 3), 0);
        CHECK.row("none", x);
    }

    private static void restingLeastRow() {
        // The rows are of places, not of the turns in which they come.
        HotThrough x = Check.told("b;f;t;b;wad2;wdc2;wcb2;p50-0@a;h30@a");
        Check.rule(x, "6");
        x.take(0, 0);
        CHECK.due("one of two", x.rests(0, 1, 30), 1);
        CHECK.row("c is less than d", x, 2);
        CHECK.due("burnt ahead of either", x.rests(0, 1, 1), 1);
        CHECK.row("12 24 at c -> 18 -> 30", x, 2);
        Check.rule(x, "8");
        // 16 at d, 32 at c: it must rest at d, and then at c, too, or 32
        CHECK.due("two of two", x.rests(0, 1, 6), 2);
        CHECK.row("two of two", x, 3, 2);
        CHECK.due("too short", x.rests(0, 1, 1), -2);
        CHECK.row("the row stays", x, 3, 2);
        CHECK.due("r 0", x.rests(0, 1, 0), -1);
        CHECK.due("r 61", x.rests(0, 1, 61), -1);
        CHECK.due("no place", x.rests(0, 4, 5), -1);
        CHECK.due("nobody", x.rests(1, 1, 5), -1);
        CHECK.due("where it is", x.rests(0, 0, 5), 0);
        CHECK.row("where it is", x);
        Check.kitchen(x, "f;b;wea1");
        CHECK.due("no path", x.rests(0, 5, 5), -3);
        CHECK.due("no path, soonest", x.soonest(0, 5), -3);
        CHECK.due("now", x.count(4), 0);
        CHECK.due("holds it", x.person(0, 6), 0);
        Check.rule(x, "31");
        CHECK.due("at once", x.rests(0, 1, 60), -2);
        CHECK.due("at once, soonest", x.soonest(0, 1), -2);
        // The pot cools while it stands there, and time goes by.
        HotThrough y = Check.told("b;b;f;wab1;wbc1;p100-9@a;h20@a");
        Check.rule(y, "h/6");
        y.take(0, 0);
        // 16; after r seconds (100 - 9 - 9 r)/6 comes to what is left of 16
        CHECK.due("12 and 13", y.rests(0, 2, 1), -2);
        CHECK.due("9 and 12", y.rests(0, 2, 2), -2);
        CHECK.due("7 and 10", y.rests(0, 2, 3), 1);
        CHECK.row("7 and 10", y, 1);
        HotThrough z = Check.told("b;b;f;wab1;wbc1;p100-0@a;h20@a");
        Check.rule(z, "21*(s>0)*(s<9)");
        z.take(0, 0);
        CHECK.due("till nine", z.rests(0, 2, 7), -2);
        CHECK.due("nine", z.rests(0, 2, 8), 1);
        CHECK.due("from one to nine", z.soonest(0, 2), 10);
        CHECK.row("from one to nine", z, 8, 1);
    }

    private static void restingMore() {
        // a board a, then b, c, d: rests at c or b do, of which b is less, though c is tried first
        HotThrough x = Check.told("b;b;b;b;t;wab1;wbc1;wcd1;wde1;p100-9@a;h40@a");
        Check.rule(x, "(s=1)*11+(s=2)*11+(s=3)*11+10");
        x.take(0, 0);
        CHECK.due("any one", x.rests(0, 4, 20), 1);
        CHECK.row("any one: b", x, 1);
        // twice: what comes through but where it stands too short
        Check.rule(x, "21");
        CHECK.due("at least each second one", x.rests(0, 4, 20), 3);
        CHECK.row("at least each second one", x, 1, 2, 3);
        Check.rule(x, "18");
        CHECK.due("once, two and two", x.rests(0, 4, 20), 1);
        CHECK.row("once, two and two", x, 2);
        Check.rule(x, "12");
        CHECK.due("once, somewhere", x.rests(0, 4, 20), 1);
        CHECK.row("once, somewhere", x, 1);
        restingLater(x);
    }

    /** Heat and time as they are where it rests, not as in a trial without that rest. */
    private static void restingLater(HotThrough x) {
        Check.rule(x, "(s=1)*(h=91)*40+(s=13)*(h=0)*40+1");
        CHECK.due("at b, and ahead of second 13", x.rests(0, 4, 11), 2);
        CHECK.row("at b, and ahead of second 13", x, 1, 2);
        CHECK.due("at b, and at c or d", x.rests(0, 4, 10), 2);
        CHECK.row("at b, and at c or d", x, 1, 2);
        CHECK.due("12 at b is second 13", x.rests(0, 4, 12), -2);
        Check.rule(x, "(h=0)*(s>9)*41+(s=1)*41");
        CHECK.due("cold behind 12", x.rests(0, 4, 9), -2);
        CHECK.due("cold at once", x.rests(0, 4, 60), -2);
        // the pot is just as hot as the time tells, at each trial
        Check.rule(x, "41*(h+9*s<100)+41*(h+9*s>100)+41*(s=3)");
        CHECK.due("not in second 3", x.rests(0, 4, 3), 1);
        CHECK.row("not in second 3", x, 1);
        Check.rule(x, "(h=0)*(s>9)*41+(s=1)*41");
        x.heat(0, 999);
        CHECK.due("hot all the time", x.rests(0, 4, 60), 1);
        CHECK.due("soonest", x.soonest(0, 4), 5);
        CHECK.row("soonest", x, 1, 1);
        Check.rule(x, "(s>0)*(s<61)*41");
        CHECK.due("59 are too few", x.rests(0, 4, 59), -2);
        CHECK.due("sixty", x.rests(0, 4, 60), 1);
        CHECK.due("soonest by sixty", x.soonest(0, 4), 64);
        CHECK.row("soonest by sixty", x, 60, 1);
        restingTwice();
    }

    private static void restingTwice() {
        // by e, d and b: 15 30, 9 24, 7 22; but 15, 5 20 35, and 15, 5 20, 6 21 36
        HotThrough y = Check.told("b;b;b;b;t;wae1;wed1;wdb1;wbc1;p100-0@a;h30@a");
        Check.rule(y, "15");
        y.take(0, 0);
        CHECK.due("two", y.rests(0, 2, 5), 2);
        CHECK.row("two", y, 3, 1);
        Check.rule(y, "12");
        CHECK.due("one of three", y.rests(0, 2, 20), 1);
        CHECK.row("one of three", y, 3);
    }

    private static void soonest() {
        HotThrough x = Check.told("b;b;b;b;wab2;wbc2;wcd2;p100-0@a;h30@a");
        Check.rule(x, "6");
        CHECK.due("holds none", x.soonest(0, 3), -1);
        x.take(0, 0);
        CHECK.due("it need not rest", x.soonest(0, 2), 4);
        CHECK.row("it need not rest", x, 0, 0);
        // at c 24 -> 18 -> 30
        CHECK.due("one second", x.soonest(0, 3), 7);
        CHECK.row("one second", x, 1, 1);
        Check.rule(x, "8");
        // 16 at b; r 1: 12 28 -> 21 37; r 2: 9 25 -> 19 -> 15 31; r 3: 7 23 -> 18 -> 14 -> 11 27
        CHECK.due("twice three", x.soonest(0, 3), 12);
        CHECK.row("twice three", x, 3, 2);
        CHECK.due("no place", x.soonest(0, 4), -1);
        CHECK.due("nobody", x.soonest(1, 3), -1);
        CHECK.due("nobody -1", x.soonest(-1, 3), -1);
        Check.rule(x, "15");
        CHECK.due("never cold enough", x.soonest(0, 3), -2);
        CHECK.row("the row stays", x, 3, 2);
        Check.rule(x, "13");
        // 26 at b; 4 after eight, 3 after nine seconds; 29 at c, 3 after nine; but 30 is 5 after eight
        CHECK.due("twice nine", x.soonest(0, 3), 24);
        CHECK.row("twice nine", x, 9, 2);
        // One long rest may be sooner than two short ones.
        HotThrough y = Check.told("b;b;b;b;wab1;wbc1;wcd1;p100-9@a;h20@a");
        Check.rule(y, "h/10");
        y.take(0, 0);
        CHECK.due("as rests() tells", y.soonest(0, 3), least(y, 0, 3));
    }

    /** What soonest() should tell, by asking rests() for each r. */
    private static int least(HotThrough x, int person, int to) {
        int best = Integer.MAX_VALUE;
        for (int r = 1; r <= 60; r++) {
            int times = x.rests(person, to, r);
            if (times >= 0) {
                best = Math.min(best, x.path(x.person(person, 1), to) + times * r);
            }
        }
        return best;
    }

    private static void chains() {
        HotThrough x = Check.told("b;f;f;f;wab2;wbc2;wcd2;p100-0@a;p9-0@a;h12@d;h24@d;h12@d;h12@a");
        Check.rule(x, "6");
        CHECK.due("two", x.chain(0, 3, 7), 2);
        CHECK.row("0, then 1 and 1", x, 0, 1, 1);
        CHECK.due("three", x.chain(0, 3, 13), 3);
        CHECK.row("three", x, 0, 2, 3);
        CHECK.due("too few", x.chain(0, 3, 5), -2);
        CHECK.row("the row stays", x, 0, 2, 3);
        CHECK.due("one", x.chain(0, 2, 15), 1);
        CHECK.row("one", x, 1, 1);
        CHECK.due("nobody is told", x.chain(0, 3, 0), -2);
        CHECK.due("nobody need be", x.chain(0, 0, 0), 0);
        CHECK.row("nobody need be", x);
        CHECK.due("none such", x.chain(0, 3, 16), -1);
        CHECK.due("bits below 0", x.chain(0, 3, -1), -1);
        CHECK.due("bit 31", x.chain(0, 3, 1 << 31), -1);
        CHECK.due("no pot", x.chain(2, 3, 7), -1);
        CHECK.due("pot -1", x.chain(-1, 3, 7), -1);
        CHECK.due("no place", x.chain(0, 4, 7), -1);
        CHECK.due("place -1", x.chain(0, -1, 7), -1);
        x.take(3, 1);
        CHECK.due("one holds a pot", x.chain(0, 3, 13), -1);
        CHECK.due("it is not told", x.chain(0, 3, 7), 2);
        CHECK.due("a pot that is held", x.chain(1, 3, 7), -1);
        Check.kitchen(x, "f");
        CHECK.due("no path", x.chain(0, 4, 7), -3);
        CHECK.due("no path, nobody", x.chain(0, 4, 0), -3);
        x.pass(3);
        CHECK.due("dropped", x.chain(1, 3, 7), -1);
        CHECK.due("now", x.count(4), 3);
        x.take(3, 0);
        CHECK.due("it is held", x.chain(0, 3, 1), -1);
        x.down(3);
        CHECK.due("it is not", x.chain(0, 2, 2), 1);
        x.walk(0, 2);
        x.walk(0, 1);
        x.walk(0, 0);
        x.take(0, 0);
        Check.kitchen(x, "p5-9@a");
        CHECK.due("person 0 holds a pot", x.chain(2, 3, 3), -1);
        Check.rule(x, "(h=1)*99+6");
        CHECK.due("5, then 0", x.chain(2, 3, 6), 2);
        CHECK.row("5, then 0", x, 1, 1, 2);
        Check.rule(x, "(h<0)*99+6");
        CHECK.due("never below", x.chain(2, 3, 6), 2);
        Check.rule(x, "(h=0)*(i=1)*99");
        CHECK.due("cold", x.chain(2, 3, 2), -2);
        CHECK.due("another one can", x.chain(2, 3, 6), 1);
        CHECK.row("another one can", x, 2, 2, 2);
    }

    private static void chainsTimes() {
        // What comes through depends on when, on who, and on how hot the pot is then.
        HotThrough x = Check.told("b;f;f;wab2;wbc2;p100-9@a;h99@a;h99@a");
        Check.rule(x, "(s<2)*(i=0)*100+(s>1)*(i=1)*100");
        CHECK.due("each at the other time", x.chain(0, 2, 3), 2);
        CHECK.row("each at the other time", x, 1, 0);
        x.pass(1);
        CHECK.due("one second later", x.chain(0, 2, 3), -2);
        x.pass(1);
        CHECK.due("two seconds later", x.chain(0, 2, 3), 1);
        CHECK.row("two seconds later", x, 0, 0);
        HotThrough y = Check.told("b;f;f;wab2;wbc2;p100-9@a;h99@a;h99@a");
        Check.rule(y, "h/2");
        // 50 45 41 36 is too much for one; 50 45, and 41 36 for the next one
        CHECK.due("two", y.chain(0, 2, 3), 2);
        CHECK.row("two", y, 0, 1);
        y.heat(0, 46);
        // 23 18 14 9
        CHECK.due("one alone", y.chain(0, 2, 3), 1);
        CHECK.row("one alone", y, 0, 0);
        // Their hands stay as warm as they are now till it comes to them.
        HotThrough z = Check.told("b;f;f;wab9;wbc9;p100-0@a;p9-0@a;h30@a;h9@a");
        Check.rule(z, "25");
        z.take(0, 1);
        z.pass(1);
        z.down(0);
        Check.rule(z, "1");
        CHECK.due("too warm", z.chain(0, 2, 1), -2);
        CHECK.due("the other, and none", z.chain(0, 2, 3), -2);
        CHECK.due("the other as far as it gets", z.chain(0, 1, 3), 1);
        CHECK.row("the other as far as it gets", z, 1);
        z.change(0);
        CHECK.due("the other hand", z.chain(0, 2, 1), 1);
        CHECK.row("the other hand", z, 0, 0);
    }

    private static void serving() {
        HotThrough x = Check.told("b;f;t;b;f;wab2;wbc3;wad4;p100-5@a;p40-1@d;p70-0@c;h99@b;h9@a");
        Check.rule(x, "1");
        // to a 2, c 5, d 9, c 9
        CHECK.due("0, then 1", x.serve(0, 3, 2, 0), 25);
        CHECK.row("0, then 1", x, 0, 1, 0);
        CHECK.due("1 alone", x.serve(0, 2, 2, 25), 15);
        CHECK.row("1 alone", x, 1, 25);
        CHECK.due("not hot enough", x.serve(0, 2, 2, 26), -2);
        CHECK.row("the row stays", x, 1, 25);
        CHECK.due("one that is there", x.serve(0, 4, 2, 70), 3);
        CHECK.row("one that is there", x, 2, 70);
        CHECK.due("all", x.serve(0, 7, 2, 0), 25);
        CHECK.row("2 costs no steps behind 0", x, 0, 1, 2, 0);
        CHECK.due("nothing told", x.serve(0, 0, 2, 0), -1);
        CHECK.due("no such pot", x.serve(0, 8, 2, 0), -1);
        CHECK.due("bits below 0", x.serve(0, -1, 2, 0), -1);
        CHECK.due("no table", x.serve(0, 1, 3, 0), -1);
        CHECK.due("a floor", x.serve(0, 1, 1, 0), -1);
        CHECK.due("no place", x.serve(0, 1, 5, 0), -1);
        CHECK.due("v -1", x.serve(0, 1, 2, -1), -1);
        CHECK.due("v 1000", x.serve(0, 1, 2, 1000), -1);
        CHECK.due("nobody", x.serve(2, 1, 2, 0), -1);
        CHECK.due("now", x.count(4), 0);
        CHECK.due("where the pots are", x.pot(0, 2) + x.pot(1, 2), 3);
        x.take(1, 0);
        CHECK.due("held", x.serve(0, 1, 2, 0), -1);
        CHECK.due("holds one", x.serve(1, 2, 2, 0), -1);
        CHECK.due("others", x.serve(0, 6, 2, 0), 15);
        Check.kitchen(x, "t;p5-5@f");
        CHECK.due("no path to the table", x.serve(0, 2, 5, 0), -2);
        CHECK.due("no path to a pot", x.serve(0, 10, 2, 0), -2);
    }

    private static void servingOrder() {
        // It is at a: pot 0 far behind the table, pot 1 on a. First 1, on the way.
        HotThrough x = Check.told("b;t;b;wab5;wbc2;p99-0@c;p80-9@a;h99@a");
        Check.rule(x, "1");
        CHECK.due("1, then 0", x.serve(0, 3, 1, 0), 9);
        CHECK.row("1, then 0", x, 1, 0, 0);
        CHECK.due("as hot as it can be", x.serve(0, 3, 1, 1), -2);
        x.heat(1, 82);
        CHECK.due("one more", x.serve(0, 3, 1, 1), 9);
        CHECK.row("one more", x, 1, 0, 1);
        // By the other order the hand that has cooled can bear the long way.
        Check.rule(x, "n+(s<9)");
        CHECK.due("31, and more", x.serve(0, 3, 1, 0), 9);
        Check.rule(x, "(p=1)*(s<8)*100");
        CHECK.due("the other order, since pot 1 is too hot at first", x.serve(0, 3, 1, 0), 19);
        CHECK.row("the other order", x, 0, 1, 0);
        Check.rule(x, "100");
        CHECK.due("burnt", x.serve(0, 3, 1, 0), -2);
        CHECK.due("nobody was, in truth", x.count(7), 0);
        x.heat(1, 999);
        Check.rule(x, "0");
        CHECK.due("999 is too hot", x.serve(0, 2, 1, 999), -2);
        // The hand is as warm at first for each order.
        HotThrough v = Check.told("b;t;b;wab2;wbc1;p99-0@a;p80-0@c;p9-0@b;h30@b");
        Check.rule(v, "7");
        v.take(0, 2);
        v.pass(4);
        v.down(0);
        // 28 -> 21 16 +7 +7 = 30 and no more, or 28 -> 21 + 7 = 28 -> 21 16 30
        CHECK.due("0, then 1", v.serve(0, 3, 1, 0), 6);
        CHECK.row("0, then 1", v, 0, 1, 80);
        Check.rule(v, "8-(s=5)");
        // 0 first: 16 +8 +8 = 32; 1 first: 28 -> 21 +7 = 28 -> 21 16 32; no
        CHECK.due("neither", v.serve(0, 3, 1, 0), -2);
        Check.rule(v, "8-(p=1)*7-(s>7)");
        // 0 first: 21 16 24 32; 1 first: 21 +1 = 22 -> 17 13 +8 +7
        CHECK.due("1, then 0", v.serve(0, 3, 1, 0), 6);
        CHECK.row("1, then 0", v, 1, 0, 80);
        // 300 seconds at most.
        HotThrough y = Check.told("b;t;f;f;wac9;wcd9;wdb9;p9-0@a;p9-0@a;p9-0@a;p9-0@a;p9-0@a;h99@a");
        Check.rule(y, "0");
        CHECK.due("five", y.serve(0, 31, 1, 9), 9 * 27);
        CHECK.row("five", y, 0, 1, 2, 3, 4, 9);
        HotThrough z = Check.told("b;t;f;f;f;wac9;wcd9;wde9;web7;p9-0@a;p9-0@a;p9-0@a;p9-0@a;p9-0@a");
        Check.kitchen(z, "h9@b");
        Check.rule(z, "0");
        CHECK.due("340 are too many", z.serve(0, 31, 1, 0), -2);
        CHECK.due("four", z.serve(0, 15, 1, 0), 272);
        HotThrough w = Check.told("b;t;f;f;f;wac9;wcd9;wde9;web3;p9-0@a;p9-0@a;p9-0@a;p9-0@a;p9-0@a");
        Check.kitchen(w, "h9@b");
        Check.rule(w, "0");
        CHECK.due("just 300", w.serve(0, 31, 1, 0), 300);
    }
}
