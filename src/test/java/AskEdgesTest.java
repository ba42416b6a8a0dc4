/**
 * Sentence by sentence, each boundary case that the document names in the promises 22 to 41: questions of seconds to
 * come, ways, dishes, marks, dinners drawn by a seed, what is kept, counts, the row.
 */
public final class AskEdgesTest {
    private static final Check CHECK = new Check("AskEdgesTest");
    private static final int LEAST = Integer.MIN_VALUE;
    private static final int GREATEST = Integer.MAX_VALUE;
    /** Neither a place, a pot, one of people nor a number under which something is kept. */
    private static final int[] NO_NUMBERS = {-1, -2, 10, 31, 32, 64, LEAST, LEAST + 1, GREATEST};
    private static final int[] NOT_TO_99 = {0, -1, 100, LEAST, GREATEST};

    public static void main(String[] args) {
        lasts();
        swaps();
        often();
        layers();
        layersOfWhatIsHeld();
        hottest();
        paths();
        clears();
        fars();
        rests();
        restsOnBoardsAlone();
        restsEarlierAndFewer();
        soonest();
        soonestOfEqualOnes();
        chains();
        chainsOfPeople();
        serves();
        servesInTime();
        marks();
        fits();
        fitsMarks();
        dinners();
        dinnersDrawn();
        keeps();
        keepsAll();
        counts();
        rows();
        CHECK.finish();
    }

    /** Board a, floor b, table c, board d; e apart; pots 0, 1 on a, 2 on c; people 0, 1 at a, 2 at c. */
    private static HotThrough room(String rule) {
        HotThrough x = Check.told("b;f;t;b;b;wab2;wbc3;wcd1;wad9!;p100-5@a;p40-0@a;p70-1@c;h30@a;h50@a;h99@c");
        Check.rule(x, rule);
        return x;
    }

    // ---- how long

    /** Promise 22: "After how many SECONDS (1 .. 300) .. -2: not in these (the ROW ..). NONE: others, it holds none". */
    private static void lasts() {
        HotThrough x = room("0");
        x.path(0, 2);
        for (int p : NO_NUMBERS) {
            CHECK.leaves("lasts(" + p + ")", x, () -> x.lasts(p), -1);
        }
        CHECK.leaves("no person 3", x, () -> x.lasts(3), -1);
        CHECK.leaves("it holds none", x, () -> x.lasts(0), -1);
        x.take(0, 0);
        Check.rule(x, "31");
        CHECK.due("in the first", x.lasts(0), 1);
        CHECK.row("in the first", x, 100);
        Check.rule(x, "30");
        CHECK.due("in the second", x.lasts(0), 2);
        CHECK.row("in the second", x, 95);
        Check.rule(x, "15");
        CHECK.due("as warm as it bears in the second", x.lasts(0), 3);
        CHECK.row("as warm as it bears in the second", x, 90);
        Check.rule(x, "(s<30)*1");
        CHECK.due("as warm as it bears for ever", x.lasts(0), -2);
        CHECK.row("as warm as it bears for ever", x, 30);
        Check.rule(x, "(s<30)*1+(s=299)");
        CHECK.due("in the last", x.lasts(0), 300);
        CHECK.row("in the last", x, 0);
        Check.rule(x, "(s<30)*1+(s=300)");
        CHECK.due("behind the last", x.lasts(0), -2);
        CHECK.row("behind the last", x, 30);
        CHECK.leaves("the other holds none", x, () -> x.lasts(1), -1);
        x.pass(1);
        Check.rule(x, "s=300");
        x.lasts(0);
        CHECK.row("300 from now on", x, 2);
        x.pass(1);
        CHECK.due("not dropped yet", x.person(0, 6), 0);
        Check.rule(x, "99");
        x.pass(1);
        CHECK.leaves("dropped", x, () -> x.lasts(0), -1);
    }

    /** Promise 23: "ahead of the n-th SECOND from now (1 .. 99), and again each n SECONDS (behind n - 1, 2 n - 1, ..)". */
    private static void swaps() {
        HotThrough x = room("0");
        x.path(0, 2);
        for (int p : NO_NUMBERS) {
            CHECK.leaves("swaps(" + p + ", 5)", x, () -> x.swaps(p, 5), -1);
        }
        CHECK.leaves("it holds none", x, () -> x.swaps(0, 5), -1);
        x.take(0, 0);
        for (int n : NOT_TO_99) {
            CHECK.leaves("swaps(0, " + n + ")", x, () -> x.swaps(0, n), -1);
        }
        CHECK.leaves("no person 3", x, () -> x.swaps(3, 1), -1);
        int[][] changes = {{1, 300}, {2, 150}, {7, 42}, {60, 5}, {75, 4}, {98, 3}, {99, 3}};
        for (int[] due : changes) {
            CHECK.due("for ever by " + due[0], x.swaps(0, due[0]), -2);
            CHECK.row("for ever by " + due[0], x, due[1]);
        }
        Check.rule(x, "(s=5)*31");
        int[][] till = {{1, 6}, {2, 3}, {3, 2}, {4, 1}, {5, 1}, {6, 1}, {7, 0}, {99, 0}};
        for (int[] due : till) {
            CHECK.due("burnt in the sixth, by " + due[0], x.swaps(0, due[0]), 6);
            CHECK.row("burnt in the sixth, by " + due[0], x, due[1]);
        }
        Check.rule(x, "(s=5)*31*r");
        int[][] hand = {{1, -2, 300}, {2, 6, 3}, {3, -2, 100}, {5, 6, 1}, {6, 6, 1}, {7, -2, 42}};
        for (int[] due : hand) {
            CHECK.due("hand 1 in the sixth, by " + due[0], x.swaps(0, due[0]), due[1]);
            CHECK.row("hand 1 in the sixth, by " + due[0], x, due[2]);
        }
        CHECK.due("it uses the same hand", x.person(0, 4), 0);
        Check.rule(x, "(s=299)*31");
        CHECK.due("in the last", x.swaps(0, 60), 300);
        CHECK.row("in the last", x, 5);
        Check.rule(x, "31");
        CHECK.due("at once, by the other hand", x.swaps(0, 1), 1);
        CHECK.row("at once, by the other hand", x, 1);
        CHECK.due("at once", x.swaps(0, 2), 1);
        CHECK.row("at once", x, 0);
    }

    /** Promise 24: "if there is none, that with which one holds it the longest (of equal ones the least)". */
    private static void often() {
        HotThrough x = room("0");
        x.path(0, 2);
        for (int p : NO_NUMBERS) {
            CHECK.leaves("often(" + p + ")", x, () -> x.often(p), -1);
        }
        CHECK.leaves("no person 3", x, () -> x.often(3), -1);
        CHECK.leaves("it holds none", x, () -> x.often(0), -1);
        x.take(0, 0);
        CHECK.due("any: the greatest", x.often(0), 99);
        CHECK.row("any: the greatest", x, -1);
        Check.rule(x, "(s=0)*31");
        CHECK.due("none, all alike: the least", x.often(0), 1);
        CHECK.row("none, all alike: the least", x, 1);
        Check.rule(x, "(s=0)*31*(r=0)");
        CHECK.due("by the other hand at once", x.often(0), 1);
        CHECK.row("by the other hand at once", x, -1);
        Check.rule(x, "(s=9)*31*(r=0)+(s=50)*31");
        // hand 1 in the tenth second: by 1 it is hand 0 then; 2: 5 changes; 3: 3; 4: 2; 5: 2
        CHECK.due("all that get to the 51st: the least", x.often(0), 2);
        CHECK.row("all that get to the 51st: the least", x, 51);
        Check.rule(x, "(s=9)*31*(r=0)");
        CHECK.due("ahead of the tenth second", x.often(0), 10);
        CHECK.row("ahead of the tenth second", x, -1);
        Check.rule(x, "(s=98)*31*(r=0)");
        CHECK.due("ahead of the last", x.often(0), 99);
        CHECK.row("ahead of the last", x, -1);
        Check.rule(x, "(s=99)*31*(r=0)");
        CHECK.due("99 is not too often", x.often(0), 99);
        Check.rule(x, "(s=9)*31*(r=1)+(s=299)*31");
        // by 1: ten changes, hand 0 in the tenth
        CHECK.due("in the 300th", x.often(0), 1);
        CHECK.row("in the 300th", x, 300);
    }

    /** Promise 25: "The least FOLD (0 .. 9) .. for n SECONDS (1 .. 99) .. -2: with none; NONE: others, .. DROPPED". */
    private static void layers() {
        HotThrough x = room("0");
        x.path(0, 2);
        for (int wrong : NO_NUMBERS) {
            CHECK.leaves("layers(" + wrong + ", 0, 1)", x, () -> x.layers(wrong, 0, 1), -1);
            CHECK.leaves("layers(0, " + wrong + ", 1)", x, () -> x.layers(0, wrong, 1), -1);
        }
        for (int n : NOT_TO_99) {
            CHECK.leaves("layers(0, 0, " + n + ")", x, () -> x.layers(0, 0, n), -1);
        }
        CHECK.leaves("no person 3", x, () -> x.layers(3, 0, 1), -1);
        CHECK.leaves("no pot 3", x, () -> x.layers(0, 3, 1), -1);
        for (int fold = 0; fold <= 9; fold++) {
            Check.rule(x, "31-(f=" + fold + ")");
            CHECK.due("just " + fold, x.layers(0, 0, 1), fold);
            CHECK.row("just " + fold, x, 30);
            CHECK.leaves("not for two", x, () -> x.layers(0, 0, 2), -2);
            Check.rule(x, "31-(f>" + fold + ")");
            CHECK.due("above " + fold, x.layers(0, 0, 1), fold == 9 ? -2 : fold + 1);
        }
        Check.rule(x, "(s=0)*30+(s=98)*(f<4)+(s=99)*99");
        CHECK.due("for 98", x.layers(0, 0, 98), 0);
        CHECK.row("for 98", x, 30);
        CHECK.due("for 99", x.layers(0, 0, 99), 4);
        CHECK.row("for 99", x, 30);
        x.fold(0, 9);
        CHECK.due("whatever its fold is", x.layers(0, 0, 99), 4);
        CHECK.due("its fold stays", x.person(0, 5), 9);
        Check.rule(x, "99");
        x.take(0, 0);
        x.pass(1);
        CHECK.leaves("dropped", x, () -> x.layers(0, 0, 1), -1);
        CHECK.leaves("dropped, of another one", x, () -> x.layers(1, 0, 1), -1);
    }

    /** Promise 25: "as both are now .., with the HAND that is used, holding no other". */
    private static void layersOfWhatIsHeld() {
        HotThrough x = room("10");
        x.take(0, 0);
        x.take(1, 1);
        x.pass(2);
        Check.rule(x, "10*(p=2)+11*(p=0)+12*(p=1)");
        CHECK.due("one that is on another place", x.layers(0, 2, 1), 0);
        CHECK.row("one that is on another place", x, 30);
        CHECK.leaves("the one it holds", x, () -> x.layers(0, 0, 1), -2);
        CHECK.due("one that another one holds", x.layers(1, 0, 2), 0);
        CHECK.row("one that another one holds", x, 42);
        x.change(0);
        CHECK.due("by the other hand", x.layers(0, 1, 2), 0);
        CHECK.row("by the other hand", x, 24);
        Check.rule(x, "h/10");
        CHECK.due("as hot as it is now: 90, 85", x.layers(0, 0, 2), 0);
        CHECK.row("as hot as it is now: 90, 85", x, 17);
    }

    /** Promise 26: "with that HEAT and with each lesser one: it. -2: not even with 0". */
    private static void hottest() {
        HotThrough x = room("0");
        x.path(0, 2);
        for (int wrong : NO_NUMBERS) {
            CHECK.leaves("hottest(" + wrong + ", 0, 1)", x, () -> x.hottest(wrong, 0, 1), -1);
            CHECK.leaves("hottest(0, " + wrong + ", 1)", x, () -> x.hottest(0, wrong, 1), -1);
        }
        for (int n : NOT_TO_99) {
            CHECK.leaves("hottest(0, 0, " + n + ")", x, () -> x.hottest(0, 0, n), -1);
        }
        CHECK.leaves("no person 3", x, () -> x.hottest(3, 0, 1), -1);
        CHECK.leaves("no pot 3", x, () -> x.hottest(0, 3, 1), -1);
        CHECK.leaves("any heat", x, () -> x.hottest(0, 0, 99), 999);
        int[] bounds = {0, 1, 2, 30, 500, 998, 999};
        for (int v : bounds) {
            Check.rule(x, "(h=" + v + ")*31");
            CHECK.leaves("all below " + v, x, () -> x.hottest(0, 1, 1), v == 0 ? -2 : v - 1);
        }
        Check.rule(x, "(h=300)*31+(h=700)*31");
        CHECK.leaves("each lesser one, too", x, () -> x.hottest(0, 1, 1), 299);
        Check.rule(x, "(h<500)*31");
        CHECK.leaves("not with 0, but with 999", x, () -> x.hottest(0, 1, 1), -2);
        // pot 0 cools by 5: v and v - 5 come through
        Check.rule(x, "");
        CHECK.leaves("30", x, () -> x.hottest(0, 0, 1), 30);
        CHECK.leaves("17 and 12", x, () -> x.hottest(0, 0, 2), 17);
        x.fold(0, 1);
        CHECK.leaves("by its fold: 340/11", x, () -> x.hottest(0, 0, 1), 340);
        Check.rule(x, "(s=98)*31");
        CHECK.leaves("98 seconds", x, () -> x.hottest(0, 0, 98), 999);
        CHECK.leaves("99 seconds", x, () -> x.hottest(0, 0, 99), -2);
        CHECK.due("it is as hot as it was", x.pot(0, 0), 100);
        Check.rule(x, "10");
        x.take(0, 0);
        x.pass(2);
        CHECK.leaves("a pot that one holds, as warm as it is", x, () -> x.hottest(0, 0, 1), 999);
        CHECK.leaves("too warm for two", x, () -> x.hottest(0, 0, 2), -2);
        CHECK.leaves("another one than it holds", x, () -> x.hottest(0, 1, 1), 999);
        x.pass(2);
        CHECK.leaves("dropped", x, () -> x.hottest(1, 0, 1), -1);
    }

    // ---- ways

    private static void noPlaces(String call, HotThrough x, java.util.function.IntBinaryOperator asked) {
        for (int p : NO_NUMBERS) {
            CHECK.leaves(call + " from " + p, x, () -> asked.applyAsInt(p, 0), -1);
            CHECK.leaves(call + " to " + p, x, () -> asked.applyAsInt(0, p), -1);
            CHECK.leaves(call + " from " + p + " to it", x, () -> asked.applyAsInt(p, p), -1);
        }
        CHECK.leaves(call + " from 5", x, () -> asked.applyAsInt(5, 0), -1);
        CHECK.leaves(call + " to 5", x, () -> asked.applyAsInt(0, 5), -1);
    }

    /** Promise 27: "the ROW: PLACES on the way, the first and the last too .. -2: one can't; NONE: others". */
    private static void paths() {
        HotThrough x = room("0");
        x.clear(0, 1);
        noPlaces("path", x, x::path);
        CHECK.leaves("no way", x, () -> x.path(0, 4), -2);
        CHECK.leaves("no way back", x, () -> x.path(4, 0), -2);
        for (int p = 0; p < 5; p++) {
            CHECK.due("from " + p + " to it", x.path(p, p), 0);
            CHECK.row("from " + p + " to it", x, p);
        }
        CHECK.due("one way", x.path(1, 0), 2);
        CHECK.row("one way", x, 1, 0);
        CHECK.due("not by the door", x.path(0, 3), 6);
        x.door(3, 1);
        CHECK.due("nine are too many", x.path(0, 3), 6);
        CHECK.row("nine are too many", x, 0, 1, 2, 3);
        Check.kitchen(x, "wad6!;wda6");
        CHECK.due("as few: 0 1 is less than 0 3", x.path(0, 3), 6);
        CHECK.row("as few: 0 1 is less than 0 3", x, 0, 1, 2, 3);
        CHECK.due("back: 3 0 is less than 3 2", x.path(3, 0), 6);
        CHECK.row("back: 3 0 is less than 3 2", x, 3, 0);
        Check.kitchen(x, "wad5");
        CHECK.due("the least of those between two places", x.path(0, 3), 5);
        CHECK.row("the least of those between two places", x, 0, 3);
        HotThrough y = Check.told("f;f;wab1!");
        CHECK.leaves("shut", y, () -> y.path(0, 1), -2);
        y.door(0, 1);
        CHECK.due("open", y.path(0, 1), 1);
        y.door(0, 0);
        CHECK.leaves("shut again", y, () -> y.path(0, 1), -2);
        // from b to c: a is behind a shut door, and one step farther than b
        HotThrough z = Check.told("f;f;f;wab1!;wbc1;wac2");
        CHECK.due("not by the shut door", z.path(1, 2), 1);
        CHECK.row("not by the shut door", z, 1, 2);
    }

    /** Promise 28: "WAYS (bits; of as few the least), those STEPS. -2: not even then; NONE: others". */
    private static void clears() {
        HotThrough x = room("0");
        x.path(0, 1);
        noPlaces("clear", x, x::clear);
        CHECK.leaves("not even then", x, () -> x.clear(0, 4), -2);
        CHECK.due("none: the door saves nothing", x.clear(0, 3), 0);
        CHECK.row("none: the door saves nothing", x, 0, 6);
        CHECK.due("like ones", x.clear(4, 4), 0);
        CHECK.row("like ones", x, 0, 0);
        Check.kitchen(x, "wad6!");
        CHECK.due("none: as many steps", x.clear(0, 3), 0);
        CHECK.row("none: as many steps", x, 0, 6);
        Check.kitchen(x, "wad5!;wad5!");
        CHECK.due("one of two", x.clear(0, 3), 1);
        CHECK.row("one of two: the least bits", x, 32, 5);
        x.door(6, 1);
        CHECK.due("the other is open", x.clear(0, 3), 0);
        CHECK.row("the other is open", x, 0, 5);
        Check.kitchen(x, "wde9!");
        CHECK.due("by one door", x.clear(0, 4), 1);
        CHECK.row("by one door", x, 128, 14);
        CHECK.due("but there is no path", x.path(0, 4), -2);
        CHECK.due("nothing is opened", x.count(5), 64);
        // a b d by ways 1 and 2; a c d by ways 0 and 3: 6 is less than 9
        HotThrough y = Check.told("f;f;f;f;wac1!;wab1!;wbd1!;wcd1!");
        CHECK.due("two of four", y.clear(0, 3), 2);
        CHECK.row("two of four", y, 6, 2);
        y.door(3, 1);
        CHECK.due("one is open: one more", y.clear(0, 3), 1);
        CHECK.row("one is open: one more", y, 1, 2);
    }

    /** Promise 29: "at how many PLACES of it behind the first it comes unburnt .. -2: there is no path; NONE: others". */
    private static void fars() {
        HotThrough x = room("0");
        x.path(0, 1);
        for (int p : NO_NUMBERS) {
            CHECK.leaves("far(" + p + ", 0)", x, () -> x.far(p, 0), -1);
        }
        CHECK.leaves("it holds none", x, () -> x.far(0, 2), -1);
        CHECK.leaves("it holds none, no path", x, () -> x.far(0, 4), -1);
        x.take(0, 0);
        for (int p : NO_NUMBERS) {
            CHECK.leaves("far(0, " + p + ")", x, () -> x.far(0, p), -1);
        }
        CHECK.leaves("no place 5", x, () -> x.far(0, 5), -1);
        CHECK.leaves("no person 3", x, () -> x.far(3, 0), -1);
        CHECK.leaves("no path", x, () -> x.far(0, 4), -2);
        CHECK.due("no steps", x.far(0, 0), 0);
        CHECK.row("no steps", x, 1, 0);
        // to b in 2, to c in 5, to d in 6
        int[][] due = {{0, 0, 0, 0}, {1, 0, 0, 1}, {2, 1, 0, 2}, {4, 1, 0, 4}, {5, 2, 0, 5}, {6, 3, 1, 6}, {7, 3, 1, 6}};
        for (int[] one : due) {
            Check.rule(x, "(s=" + one[0] + ")*31");
            CHECK.due("burnt behind " + one[0], x.far(0, 3), one[1]);
            CHECK.row("burnt behind " + one[0], x, one[2], one[3]);
        }
        Check.rule(x, "31");
        CHECK.due("no steps, though too hot", x.far(0, 0), 0);
        CHECK.row("no steps, though too hot", x, 1, 0);
    }

    /** Promise 30: "rest r SECONDS (1 .. 60) .. -2: by none; -3: there is no path; NONE: others, it holds none". */
    private static void rests() {
        HotThrough x = room("0");
        x.path(0, 1);
        CHECK.leaves("it holds none", x, () -> x.rests(0, 2, 1), -1);
        CHECK.leaves("it holds none, no path", x, () -> x.rests(0, 4, 1), -1);
        x.take(0, 0);
        for (int wrong : NO_NUMBERS) {
            CHECK.leaves("rests(" + wrong + ", 2, 1)", x, () -> x.rests(wrong, 2, 1), -1);
            CHECK.leaves("rests(0, " + wrong + ", 1)", x, () -> x.rests(0, wrong, 1), -1);
        }
        int[] not = {0, -1, 61, LEAST, GREATEST};
        for (int r : not) {
            CHECK.leaves("rests(0, 2, " + r + ")", x, () -> x.rests(0, 2, r), -1);
            CHECK.leaves("no path, and r " + r, x, () -> x.rests(0, 4, r), -1);
        }
        CHECK.leaves("no path", x, () -> x.rests(0, 4, 1), -3);
        CHECK.due("none", x.rests(0, 3, 60), 0);
        CHECK.row("none", x);
        x.path(0, 1);
        Check.rule(x, "31");
        CHECK.leaves("by none", x, () -> x.rests(0, 3, 60), -2);
        CHECK.due("where it is", x.rests(0, 0, 1), 0);
        CHECK.row("where it is", x);
        // it comes to c behind 5, and is burnt if it goes on ahead of 65
        Check.rule(x, "(s>4)*(s<65)*31");
        CHECK.due("till 65", x.rests(0, 3, 60), 1);
        CHECK.row("till 65", x, 2);
        x.path(0, 1);
        CHECK.leaves("59 are too few", x, () -> x.rests(0, 3, 59), -2);
        Check.rule(x, "(s=5)*31");
        CHECK.due("one second", x.rests(0, 3, 1), 1);
        CHECK.row("one second", x, 2);
    }

    /** Promise 30: "on the boards and tables of it (not the first and last PLACE)": each of them once, not on floors. */
    private static void restsOnBoardsAlone() {
        HotThrough x = Check.told("b;b;f;t;b;wab1;wbc1;wcd1;wde1;p9-0@a;h30@a");
        Check.rule(x, "15");
        x.take(0, 0);
        x.pass(2);
        CHECK.due("warm at the first place, a board", x.person(0, 2), 30);
        CHECK.leaves("it can't rest there", x, () -> x.rests(0, 4, 60), -2);
        CHECK.leaves("not at any time", x, () -> x.soonest(0, 4), -2);
        CHECK.leaves("nor for one step", x, () -> x.rests(0, 1, 60), -2);
        x.down(0);
        x.pass(99);
        x.take(0, 0);
        Check.rule(x, "14");
        // 3; 17 at b, 31 at c; by a rest at b 17 at c, 31 at d
        CHECK.due("to the floor", x.rests(0, 2, 60), 1);
        CHECK.row("to the floor", x, 1);
        CHECK.leaves("it can't rest on the floor", x, () -> x.rests(0, 4, 60), -2);
        Check.rule(x, "12");
        // 15 at b, 27 at c; rest at b: 3, 15 at c, 27 at d; rest at d: 15 at e
        CHECK.due("a board and a table", x.rests(0, 4, 60), 2);
        CHECK.row("a board and a table", x, 1, 3);
        CHECK.due("the table is the last place", x.rests(0, 3, 60), 1);
        CHECK.row("the table is the last place", x, 1);
        Check.rule(x, "9");
        // 12 at b, 21 at c, 30 at d, 39: either, and b is less than d
        CHECK.due("either", x.rests(0, 4, 60), 1);
        CHECK.row("either", x, 1);
    }

    /** Promise 30: "the fewest times": once on an earlier board, though twice on later ones of lesser numbers would do. */
    private static void restsEarlierAndFewer() {
        HotThrough x = Check.told("b;b;b;b;b;wad1;wdb1;wbc1;wce1;p9-0@a;h60@a");
        Check.rule(x, "4+((n=9)+(n=10)+(n=12))*99");
        x.take(0, 0);
        // 4 8 12; at d: 4, 3 7 11 15; at b: 4 8, 6 10; at c: 4 8 12, 9; at b and c: 4 8, 6 10, 8 12
        CHECK.due("once at d", x.rests(0, 4, 1), 1);
        CHECK.row("once at d", x, 3);
        CHECK.due("so it is there", x.soonest(0, 4), 5);
        CHECK.row("so it is there", x, 1, 1);
        x.walk(0, 0);
        // as warm as 4 it begins at d: 8 12; at b: 8, 6 10; at c: 8 12, 9; at both: 8, 6 10, 8 12
        CHECK.due("from d, twice", x.rests(0, 4, 1), 2);
        CHECK.row("from d, twice", x, 1, 2);
        HotThrough y = Check.told("b;b;b;b;b;wab1;wbc1;wcd1;wde1;p9-0@a;h60@a");
        Check.rule(y, "4+((n=9)+(n=10)+(n=12))*99");
        y.take(0, 0);
        CHECK.due("once at b", y.rests(0, 4, 1), 1);
        CHECK.row("once at b", y, 1);
    }

    /** Promise 31: "r being what one likes (1 .. 60 ..) .. 0 if it need not be set down .. -2: with no r; -3, NONE". */
    private static void soonest() {
        HotThrough x = room("0");
        x.path(0, 1);
        CHECK.leaves("it holds none", x, () -> x.soonest(0, 2), -1);
        CHECK.leaves("it holds none, no path", x, () -> x.soonest(0, 4), -1);
        x.take(0, 0);
        for (int wrong : NO_NUMBERS) {
            CHECK.leaves("soonest(" + wrong + ", 2)", x, () -> x.soonest(wrong, 2), -1);
            CHECK.leaves("soonest(0, " + wrong + ")", x, () -> x.soonest(0, wrong), -1);
        }
        CHECK.leaves("no person 3", x, () -> x.soonest(3, 2), -1);
        CHECK.leaves("no place 5", x, () -> x.soonest(0, 5), -1);
        CHECK.leaves("no path", x, () -> x.soonest(0, 4), -3);
        CHECK.due("it need not be set down", x.soonest(0, 3), 6);
        CHECK.row("it need not be set down", x, 0, 0);
        CHECK.due("where it is", x.soonest(0, 0), 0);
        CHECK.row("where it is", x, 0, 0);
        for (int r = 1; r <= 60; r++) {
            Check.rule(x, "(s>4)*(s<" + (5 + r) + ")*31");
            CHECK.due("just r " + r, x.soonest(0, 3), 6 + r);
            CHECK.row("just r " + r, x, r, 1);
        }
        Check.rule(x, "(s>4)*(s<66)*31");
        CHECK.leaves("61 would do", x, () -> x.soonest(0, 3), -2);
        Check.rule(x, "(s=0)*31");
        CHECK.leaves("at once", x, () -> x.soonest(0, 3), -2);
        CHECK.due("where it is, though too hot", x.soonest(0, 0), 0);
        CHECK.row("where it is, though too hot", x, 0, 0);
    }

    /** Promise 31: "r (of as few SECONDS the least ..)". */
    private static void soonestOfEqualOnes() {
        HotThrough x = Check.told("b;b;b;b;wab1;wbc1;wcd1;p9-0@a;h40@a");
        Check.rule(x, "17");
        x.take(0, 0);
        // r 1: 17, 13 30, 23 40; but not 17 34, 26 43, nor 17, 13 30 47. r 2, at c alone: 17 34, 20 37
        CHECK.due("twice one", x.rests(0, 3, 1), 2);
        CHECK.due("once two", x.rests(0, 3, 2), 1);
        CHECK.row("once two, at c", x, 2);
        CHECK.due("both are as soon", x.soonest(0, 3), 5);
        CHECK.row("the least r", x, 1, 2);
        Check.rule(x, "18");
        // r 1: 18, 14 32, 24 42; r 2: 18 36, 21 39
        CHECK.due("twice one is too short", x.rests(0, 3, 1), -2);
        CHECK.due("once two", x.soonest(0, 3), 5);
        CHECK.row("once two", x, 2, 1);
        Check.rule(x, "20");
        // r 2: 20, 12 32, 18 38; but not 20 40, 23 43, nor 20, 12 32 52. r 3, at c alone: 20 40, 18 38
        CHECK.due("twice two", x.rests(0, 3, 2), 2);
        CHECK.due("once three is sooner by one", x.soonest(0, 3), 6);
        CHECK.row("once three is sooner by one", x, 3, 1);
        HotThrough y = Check.told("b;b;b;b;b;wab1;wbc1;wcd1;wde1;p9-0@a;h30@a");
        Check.rule(y, "11");
        y.take(0, 0);
        CHECK.due("twice two", y.rests(0, 4, 2), 2);
        CHECK.due("twice three", y.rests(0, 4, 3), 2);
        CHECK.due("once four", y.rests(0, 4, 4), 1);
        CHECK.due("as soon", y.soonest(0, 4), 8);
        CHECK.row("as soon: the least r", y, 2, 2);
    }

    /** Promise 32: "-2: they can't; -3: there is no path; NONE: others, bits of none such, one who holds a POT, ..". */
    private static void chains() {
        HotThrough x = room("0");
        x.path(0, 1);
        for (int wrong : NO_NUMBERS) {
            CHECK.leaves("chain(" + wrong + ", 2, 1)", x, () -> x.chain(wrong, 2, 1), -1);
            CHECK.leaves("chain(0, " + wrong + ", 1)", x, () -> x.chain(0, wrong, 1), -1);
        }
        CHECK.leaves("no pot 3", x, () -> x.chain(3, 2, 1), -1);
        CHECK.leaves("no place 5", x, () -> x.chain(0, 5, 1), -1);
        int[] bits = {8, 9, 15, 16, 32, 1 << 30, LEAST, LEAST + 1, -1, GREATEST};
        for (int those : bits) {
            CHECK.leaves("bits " + those, x, () -> x.chain(0, 2, those), -1);
            CHECK.leaves("no path, bits " + those, x, () -> x.chain(0, 4, those), -1);
        }
        CHECK.leaves("no path", x, () -> x.chain(0, 4, 7), -3);
        CHECK.leaves("no path, and nobody told", x, () -> x.chain(0, 4, 0), -3);
        CHECK.leaves("nobody told", x, () -> x.chain(0, 2, 0), -2);
        CHECK.due("it is there: nobody", x.chain(0, 0, 0), 0);
        CHECK.row("it is there: nobody", x);
        CHECK.due("it is there: nobody of three", x.chain(0, 0, 7), 0);
        CHECK.row("it is there: nobody of three", x);
        x.path(0, 1);
        Check.rule(x, "99");
        CHECK.leaves("they can't", x, () -> x.chain(0, 2, 3), -2);
        CHECK.due("it is there, though too hot", x.chain(0, 0, 7), 0);
        x.path(0, 1);
        Check.rule(x, "0");
        x.take(1, 1);
        CHECK.leaves("one holds a pot", x, () -> x.chain(0, 2, 2), -1);
        CHECK.leaves("one of three does", x, () -> x.chain(0, 2, 7), -1);
        CHECK.leaves("one does, no path", x, () -> x.chain(0, 4, 7), -1);
        CHECK.leaves("a pot that is held", x, () -> x.chain(1, 2, 5), -1);
        CHECK.due("those who hold none", x.chain(0, 2, 5), 1);
        Check.rule(x, "99");
        x.pass(1);
        CHECK.leaves("a pot that is dropped", x, () -> x.chain(1, 2, 5), -1);
        Check.rule(x, "0");
        CHECK.due("all three", x.chain(0, 2, 7), 1);
        CHECK.row("all three: 0", x, 0, 0);
        Check.kitchen(x, "p9-0@c");
        x.take(0, 0);
        CHECK.leaves("person 0 holds a pot", x, () -> x.chain(3, 0, 1), -1);
        CHECK.leaves("pot 0 is held", x, () -> x.chain(0, 2, 4), -1);
        CHECK.due("another pot, by another one", x.chain(3, 0, 4), 1);
    }

    /** Promise 32: "each one piece of WAYS, or none, one behind another, .. as WARM as they are now". */
    private static void chainsOfPeople() {
        HotThrough x = Check.told("b;f;f;f;f;f;wab1;wbc1;wcd1;wde1;wef1;p9-0@a;h10@f;h20@f;h30@f;h10@f;h40@f");
        Check.rule(x, "10");
        CHECK.due("two of five", x.chain(0, 5, 31), 2);
        CHECK.row("two of five: the least row", x, 0, 4, 4, 4, 4);
        CHECK.due("two of four", x.chain(0, 5, 15), 2);
        CHECK.row("two of four", x, 1, 1, 2, 2, 2);
        CHECK.due("1 and 4", x.chain(0, 5, 18), 2);
        CHECK.row("1 and 4: 1 as far as it gets is the least row", x, 1, 1, 4, 4, 4);
        CHECK.due("2 and 4", x.chain(0, 5, 20), 2);
        CHECK.row("2 and 4", x, 2, 2, 2, 4, 4);
        CHECK.due("0, 1 and 3: four ways", x.chain(0, 4, 11), 3);
        CHECK.row("0, 1 and 3: four ways", x, 0, 1, 1, 3);
        CHECK.due("0, 1 and 3: five ways", x.chain(0, 5, 11), -2);
        CHECK.due("one piece alone: 0 can't come twice", x.chain(0, 3, 1), -2);
        CHECK.due("4 alone", x.chain(0, 4, 31), 1);
        CHECK.row("4 alone", x, 4, 4, 4, 4);
        CHECK.due("either of three ways: 2 is less than 4", x.chain(0, 3, 31), 1);
        CHECK.row("either of three ways: 2 is less than 4", x, 2, 2, 2);
        CHECK.due("of all five", x.chain(0, 1, 31), 1);
        CHECK.row("of all five", x, 0);
        HotThrough y = Check.told("b;f;f;f;f;f;f;f;f;f;wab9;wbc9;wcd9;wde9;wef9;wfg9;wgh9;whi9;wij9", "p999-9@a;h9@a;h9@j");
        Check.rule(y, "(s=0)*9*i+(s=80)*(h=279)*(1-i)*10");
        CHECK.due("81 seconds: 1, since 0 is burnt in the last", y.chain(0, 9, 3), 1);
        CHECK.row("81 seconds", y, 1, 1, 1, 1, 1, 1, 1, 1, 1);
        CHECK.due("0 gets as far as i", y.chain(0, 8, 3), 1);
        CHECK.row("0 gets as far as i", y, 0, 0, 0, 0, 0, 0, 0, 0);
        CHECK.due("0 can't", y.chain(0, 9, 1), -2);
    }

    // ---- dishes

    /** Promise 33: "-2: by none (no path, too); NONE: others, it holds one, no table, nothing told, ..". */
    private static void serves() {
        HotThrough x = room("0");
        x.path(0, 1);
        for (int wrong : NO_NUMBERS) {
            CHECK.leaves("serve(" + wrong + ", 1, 2, 0)", x, () -> x.serve(wrong, 1, 2, 0), -1);
            CHECK.leaves("serve(0, 1, " + wrong + ", 0)", x, () -> x.serve(0, 1, wrong, 0), -1);
        }
        CHECK.leaves("no person 3", x, () -> x.serve(3, 1, 2, 0), -1);
        CHECK.leaves("no place 5", x, () -> x.serve(0, 1, 5, 0), -1);
        CHECK.leaves("a board", x, () -> x.serve(0, 1, 0, 0), -1);
        CHECK.leaves("a floor", x, () -> x.serve(0, 1, 1, 0), -1);
        int[] bits = {0, 8, 9, 15, 31, 32, LEAST, LEAST + 1, -1, GREATEST};
        for (int those : bits) {
            CHECK.leaves("bits " + those, x, () -> x.serve(0, those, 2, 0), -1);
        }
        int[] heats = {-1, 1000, LEAST, GREATEST};
        for (int v : heats) {
            CHECK.leaves("v " + v, x, () -> x.serve(0, 1, 2, v), -1);
        }
        // pot 0 is at the table behind 5 seconds, 75 hot; pot 1 is 40 hot always
        CHECK.due("just hot enough", x.serve(0, 1, 2, 75), 5);
        CHECK.row("just hot enough", x, 0, 75);
        CHECK.leaves("too cold by one", x, () -> x.serve(0, 1, 2, 76), -2);
        CHECK.due("two: 100 less 15 times 5", x.serve(0, 3, 2, 25), 15);
        CHECK.row("two: of as soon ones the least row", x, 0, 1, 25);
        CHECK.leaves("two, too cold by one", x, () -> x.serve(0, 3, 2, 26), -2);
        CHECK.due("of as cold ones", x.serve(0, 7, 2, 0), 15);
        CHECK.row("of as cold ones: the one that is there at any time", x, 0, 1, 2, 25);
        x.heat(1, 999);
        CHECK.due("999", x.serve(0, 2, 2, 999), 5);
        CHECK.row("999", x, 1, 999);
        CHECK.due("it is on the table, one is there, too", x.serve(2, 4, 2, 70), 0);
        CHECK.row("it is on the table, one is there, too", x, 2, 70);
        Check.rule(x, "99");
        CHECK.due("no second goes by, though too hot", x.serve(2, 4, 2, 70), 0);
        x.path(0, 1);
        CHECK.leaves("burnt", x, () -> x.serve(0, 1, 2, 0), -2);
        Check.rule(x, "0");
        x.take(1, 1);
        CHECK.leaves("it holds one", x, () -> x.serve(1, 1, 2, 0), -1);
        CHECK.leaves("a pot that is held", x, () -> x.serve(0, 2, 2, 0), -1);
        CHECK.leaves("one of two is held", x, () -> x.serve(0, 3, 2, 0), -1);
        Check.rule(x, "99");
        x.pass(1);
        CHECK.leaves("a pot that is dropped", x, () -> x.serve(0, 2, 2, 0), -1);
        Check.rule(x, "0");
        x.take(1, 0);
        CHECK.leaves("pot 0 is held", x, () -> x.serve(0, 1, 2, 0), -1);
        CHECK.leaves("one of two is", x, () -> x.serve(0, 5, 2, 0), -1);
        x.down(1);
        Check.kitchen(x, "t;h9@e;p9-0@f");
        CHECK.leaves("no path to the table", x, () -> x.serve(0, 1, 5, 0), -2);
        CHECK.leaves("no path to the pot", x, () -> x.serve(3, 1, 2, 0), -2);
        CHECK.leaves("no path to one of two pots", x, () -> x.serve(0, 9, 2, 0), -2);
    }

    /** Promise 33: "(300 SECONDS at most)". */
    private static void servesInTime() {
        HotThrough x = Check.told("b;t;f;f;f;wac9;wcd9;wde9;web3;p9-0@a;p9-0@a;p9-0@a;p9-0@a;p9-0@a;h9@b;h9@b");
        Check.rule(x, "0");
        CHECK.due("ten times thirty", x.serve(0, 31, 1, 9), 300);
        CHECK.row("ten times thirty", x, 0, 1, 2, 3, 4, 9);
        Check.rule(x, "(s=299)*10*i");
        CHECK.due("burnt in the last", x.serve(1, 31, 1, 9), -2);
        Check.rule(x, "(s=300)*10*i");
        CHECK.due("burnt behind the last", x.serve(1, 31, 1, 9), 300);
        Check.kitchen(x, "f;wfb1;h9@f");
        CHECK.leaves("one more to the first of them", x, () -> x.serve(2, 31, 1, 0), -2);
        CHECK.due("but four", x.serve(2, 15, 1, 0), 241);
        HotThrough y = Check.told("t;b;wab9;wba8;p300-1@b;p9-0@b;h9@a");
        Check.rule(y, "0");
        CHECK.due("the first one cools as it waits: 268", y.serve(0, 3, 0, 9), 32);
        CHECK.row("the least heat is the other's", y, 0, 1, 9);
        y.heat(1, 269);
        CHECK.due("the first one's", y.serve(0, 3, 0, 268), 32);
        CHECK.row("the first one's", y, 0, 1, 268);
        CHECK.due("one alone", y.serve(0, 1, 0, 284), 16);
        CHECK.row("one alone", y, 0, 284);
    }

    // ---- marks

    /** Promise 34: "just behind n SECONDS (0 .. 300 ..): how many such were told. Refused: others, 8"; promise 35. */
    private static void marks() {
        HotThrough x = room("0");
        x.path(0, 1);
        CHECK.leaves("wipe nothing", x, x::wipe, 0);
        for (int p : NO_NUMBERS) {
            CHECK.leaves("mark(" + p + ", 0)", x, () -> x.mark(p, 0), -1);
        }
        CHECK.leaves("no place 5", x, () -> x.mark(5, 0), -1);
        int[] wrong = {-1, 301, LEAST, GREATEST};
        for (int n : wrong) {
            CHECK.leaves("mark(0, " + n + ")", x, () -> x.mark(0, n), -1);
        }
        CHECK.due("0", x.mark(0, 0), 1);
        CHECK.due("300", x.mark(4, 300), 2);
        CHECK.due("the same one", x.mark(4, 300), 3);
        CHECK.due("another time", x.mark(4, 299), 4);
        for (int k = 5; k <= 8; k++) {
            CHECK.due("mark " + k, x.mark(1, k), k);
        }
        CHECK.leaves("a ninth", x, () -> x.mark(0, 0), -1);
        CHECK.leaves("a ninth, no place", x, () -> x.mark(9, 0), -1);
        CHECK.due("eight are wiped off", x.wipe(), 8);
        CHECK.leaves("none are", x, x::wipe, 0);
        CHECK.due("one anew", x.mark(0, 0), 1);
        CHECK.due("one is wiped off", x.wipe(), 1);
    }

    /** Promise 36: "none of whose PLACES comes twice, .. (two between the same PLACES count for two) .. (none without)". */
    private static void fits() {
        HotThrough x = room("0");
        x.path(0, 1);
        for (int p : NO_NUMBERS) {
            CHECK.leaves("fits(" + p + ", 0)", x, () -> x.fits(p, 0), -1);
            CHECK.leaves("fits(0, " + p + ")", x, () -> x.fits(0, p), -1);
            CHECK.leaves("fits(" + p + ", " + p + ")", x, () -> x.fits(p, p), -1);
        }
        CHECK.leaves("no place 5", x, () -> x.fits(0, 5), -1);
        for (int p = 0; p < 5; p++) {
            int same = p;
            CHECK.leaves("like ones " + p, x, () -> x.fits(same, same), -1);
        }
        CHECK.due("one way", x.fits(0, 3), 1);
        CHECK.row("one way", x, 0, 1, 2, 3);
        CHECK.due("none", x.fits(0, 4), 0);
        CHECK.row("none", x);
        x.door(3, 1);
        CHECK.due("two, by the door", x.fits(0, 3), 2);
        CHECK.row("two, by the door: the least", x, 0, 1, 2, 3);
        CHECK.due("back", x.fits(3, 0), 2);
        CHECK.row("back: the least", x, 3, 0);
        CHECK.due("all round", x.fits(1, 0), 2);
        CHECK.row("all round: the least", x, 1, 0);
        Check.kitchen(x, "wab9");
        CHECK.due("two between a and b", x.fits(0, 1), 3);
        CHECK.row("two between a and b", x, 0, 1);
        CHECK.due("and on: two and one", x.fits(0, 3), 3);
        x.door(3, 0);
        CHECK.due("shut: two", x.fits(0, 3), 2);
    }

    /** Promises 34, 36: "came to a PLACE just behind n SECONDS (.. 0: it began there)"; "that fit all marks". */
    private static void fitsMarks() {
        HotThrough x = room("0");
        Check.kitchen(x, "wab9;wbd4");
        // a b c d: 2 5 6 or 9 12 13; a b d: 2 6 or 9 13
        CHECK.due("all", x.fits(0, 3), 4);
        int[][] one = {{0, 0, 4}, {0, 1, 0}, {1, 0, 0}, {1, 1, 0}, {1, 2, 2}, {1, 3, 0}, {1, 9, 2}, {2, 4, 0}, {2, 5, 1}, {2, 12, 1},
            {3, 6, 2}, {3, 7, 0}, {3, 13, 2}, {3, 300, 0}, {4, 0, 0}};
        for (int[] mark : one) {
            x.mark(mark[0], mark[1]);
            CHECK.due("at " + mark[0] + " behind " + mark[1], x.fits(0, 3), mark[2]);
            CHECK.due("its row", x.count(10), mark[2] == 0 ? 0 : 4);
            x.wipe();
        }
        x.mark(1, 2);
        x.mark(3, 6);
        CHECK.due("both", x.fits(0, 3), 2);
        CHECK.row("both", x, 0, 1, 2, 3);
        x.mark(2, 5);
        CHECK.due("all three", x.fits(0, 3), 1);
        x.mark(2, 12);
        CHECK.due("not c at two times", x.fits(0, 3), 0);
        CHECK.row("not c at two times", x);
        CHECK.due("marks stay", x.wipe(), 4);
        for (int k = 0; k < 8; k++) {
            x.mark(3, 13);
        }
        CHECK.due("eight alike", x.fits(0, 3), 2);
        x.wipe();
        for (int k = 0; k < 7; k++) {
            x.mark(3, 13);
        }
        x.mark(2, 12);
        CHECK.due("the eighth is one, too", x.fits(0, 3), 1);
    }

    // ---- dinners

    /** Promise 37: "n DINNERS (1 .. 50) .. -2: there is no path; NONE: others, it holds none". */
    private static void dinners() {
        HotThrough x = room("0");
        x.path(0, 1);
        CHECK.leaves("it holds none", x, () -> x.dinners(0, 2, 1, 1), -1);
        CHECK.leaves("it holds none, no path", x, () -> x.dinners(0, 4, 1, 1), -1);
        x.take(0, 0);
        for (int wrong : NO_NUMBERS) {
            CHECK.leaves("dinners(" + wrong + ", 2, 1, 1)", x, () -> x.dinners(wrong, 2, 1, 1), -1);
            CHECK.leaves("dinners(0, " + wrong + ", 1, 1)", x, () -> x.dinners(0, wrong, 1, 1), -1);
        }
        CHECK.leaves("no person 3", x, () -> x.dinners(3, 2, 1, 1), -1);
        CHECK.leaves("no place 5", x, () -> x.dinners(0, 5, 1, 1), -1);
        int[] not = {0, -1, 51, LEAST, GREATEST};
        for (int n : not) {
            CHECK.leaves("dinners(0, 2, 1, " + n + ")", x, () -> x.dinners(0, 2, 1, n), -1);
            CHECK.leaves("no path, and n " + n, x, () -> x.dinners(0, 4, 1, n), -1);
        }
        CHECK.leaves("no path", x, () -> x.dinners(0, 4, 1, 1), -2);
        CHECK.due("one", x.dinners(0, 2, 1, 1), 1);
        CHECK.due("fifty", x.dinners(0, 2, 1, 50), 50);
        CHECK.due("the least of none", x.row(1), -1);
        Check.rule(x, "31");
        CHECK.due("burnt in all", x.dinners(0, 2, 1, 50), 0);
        CHECK.due("the greatest of none", x.row(0), -1);
        CHECK.due("where it is, though too hot", x.dinners(0, 0, 1, 50), 50);
        CHECK.due("nothing changes: now", x.count(4), 0);
        CHECK.due("nothing changes: heat", x.pot(0, 0), 100);
        CHECK.due("nothing changes: warm", x.person(0, 2), 0);
    }

    /** Promise 37: "R = R times 1103515245 + 12345 (as ints ..), (R without sign, by 65536) % n"; "(999 at most)". */
    private static void dinnersDrawn() {
        HotThrough x = room("0");
        x.take(0, 0);
        // R is 12345, by 65536 0
        CHECK.due("seed 0: 0 more", x.dinners(0, 0, 0, 1), 1);
        CHECK.row("seed 0: 0 more", x, 100, -1);
        // 12345 * 1103515245 + 12345 as an int is -740551042, without sign 3554416254: 54236; % 200: 36
        CHECK.due("seed 0, two: 0 and 36 more", x.dinners(0, 0, 0, 2), 2);
        CHECK.row("seed 0, two", x, 136, -1);
        CHECK.due("the second begins where the first ended", x.dinners(0, 0, 12345, 1), 1);
        CHECK.row("36 more", x, 136, -1);
        // 2 to the 31st times an odd number is as much: R is 2 to the 31st + 12345: 32768; % 200: 168
        CHECK.due("the least seed", x.dinners(0, 0, LEAST, 1), 1);
        CHECK.row("168 more", x, 268, -1);
        // one less than that, so 1103515245 less: 1043980748: 15929 and something; % 200: 129
        CHECK.due("the greatest seed", x.dinners(0, 0, GREATEST, 1), 1);
        CHECK.row("129 more", x, 229, -1);
        Check.rule(x, "(h>135)*31");
        CHECK.due("100 is borne, 136 is not", x.dinners(0, 2, 0, 2), 1);
        CHECK.row("100 is borne, 136 is not", x, 100, 136);
        int[] heats = {962, 963, 964, 999};
        Check.rule(x, "0");
        for (int v : heats) {
            x.heat(0, v);
            x.dinners(0, 0, 12345, 1);
            CHECK.row("999 at most, of " + v, x, Math.min(999, v + 36), -1);
        }
    }

    // ---- kept

    /** Promise 38: "a number 0 .. 2: true. Refused: others"; promise 39: "nothing kept, something .. came since". */
    private static void keeps() {
        HotThrough x = room("0");
        x.path(0, 1);
        int[] not = {-1, 3, 31, 32, 33, 64, LEAST, LEAST + 1, GREATEST};
        for (int i : not) {
            CHECK.leaves("keep(" + i + ")", x, () -> x.keep(i) ? 1 : 0, 0);
            CHECK.leaves("again(" + i + ")", x, () -> x.again(i) ? 1 : 0, 0);
        }
        for (int i = 0; i < 3; i++) {
            int number = i;
            CHECK.leaves("nothing kept under " + i, x, () -> x.again(number) ? 1 : 0, 0);
        }
        for (int i = 0; i < 3; i++) {
            CHECK.due("keep(" + i + ")", x.keep(i), true);
            for (int other = i + 1; other < 3; other++) {
                int number = other;
                CHECK.leaves("nothing kept under " + other, x, () -> x.again(number) ? 1 : 0, 0);
            }
            x.pass(10);
        }
        for (int i : not) {
            CHECK.leaves("then keep(" + i + ")", x, () -> x.keep(i) ? 1 : 0, 0);
            CHECK.leaves("then again(" + i + ")", x, () -> x.again(i) ? 1 : 0, 0);
        }
        for (int i = 2; i >= 0; i--) {
            CHECK.due("again(" + i + ")", x.again(i), true);
            CHECK.due("now", x.count(4), 10 * i);
        }
        CHECK.due("keep(2) anew", x.keep(2), true);
        x.again(1);
        x.again(2);
        CHECK.due("the latest one", x.count(4), 0);
        String[] lines = {"f", "wab1", "p1-1@a", "h1@a"};
        for (String line : lines) {
            x.keep(0);
            x.keep(1);
            CHECK.due("refused", Check.kitchen(x, line + ";x"), -2 - line.length());
            x.kitchen();
            CHECK.due("nothing came", x.again(0), true);
            Check.kitchen(x, line);
            for (int i = 0; i < 3; i++) {
                int number = i;
                CHECK.leaves("since " + line + " came, again(" + i + ")", x, () -> x.again(number) ? 1 : 0, 0);
            }
        }
        CHECK.due("kept since", x.keep(2), true);
        CHECK.due("again", x.again(2), true);
        HotThrough y = new HotThrough();
        CHECK.due("nothing is kept as well", y.keep(0), true);
        CHECK.due("again", y.again(0), true);
    }

    /** Promises 38, 39: "POTS, PEOPLE, doors, NOW": all of them as they were, and nothing else. */
    private static void keepsAll() {
        HotThrough x = room("20");
        x.take(1, 0);
        x.change(0);
        x.fold(2, 7);
        x.door(3, 1);
        x.pass(1);
        x.heat(2, 55);
        x.keep(0);
        String kept = Check.state(x);
        for (int round = 0; round < 2; round++) {
            x.down(1);
            x.take(1, 1);
            x.pass(3);
            x.change(0);
            x.fold(2, 1);
            x.door(3, 0);
            x.walk(2, 2);
            x.heat(2, 5);
            CHECK.due("another one is burnt", x.count(7), 1);
            CHECK.due("again", x.again(0), true);
            CHECK.due("all is as it was", Check.state(x).equals(kept), true);
        }
        x.mark(0, 0);
        Check.rule(x, "3");
        x.path(0, 1);
        Check.text(x, "f;");
        x.again(0);
        CHECK.due("marks stay", x.count(9), 1);
        CHECK.due("the rule stays", x.person(1, 8), 3);
        CHECK.row("the row stays", x, 0, 1);
        CHECK.due("the text stays", x.count(11), 2);
    }

    // ---- count, row

    /** Promise 40: "-100 for another what". */
    private static void counts() {
        HotThrough x = room("0");
        int[] wrong = {-1, -100, 12, 13, 31, 32, LEAST, GREATEST};
        for (int what : wrong) {
            CHECK.leaves("count(" + what + ")", x, () -> x.count(what), -100);
        }
        int[] due = {5, 4, 3, 3, 0, 0, 0, 0, 0, 0, 0, 0};
        for (int what = 0; what <= 11; what++) {
            CHECK.due("count(" + what + ")", x.count(what), due[what]);
        }
        Check.rule(x, "31");
        x.take(0, 1);
        x.door(3, 1);
        x.pass(7);
        x.path(0, 2);
        x.mark(0, 0);
        x.mark(0, 0);
        Check.text(x, "fffff");
        int[] then = {5, 4, 3, 3, 7, 8, 2, 1, 3, 2, 3, 5};
        for (int what = 0; what <= 11; what++) {
            CHECK.due("then count(" + what + ")", x.count(what), then[what]);
        }
    }

    /** Promise 41: "Number i of the ROW. NoSuchElementException: none such". */
    private static void rows() {
        HotThrough x = Check.told("f;f;f;f;f;f;f;f;f;f;wab1;wbc1;wcd1;wde1;wef1;wfg1;wgh1;whi1;wij1", "h9@a");
        int[] wrong = {-1, LEAST, GREATEST, 10, 11, 15, 16, 17, 32, 64};
        for (int i : wrong) {
            CHECK.missing("row(" + i + ") of none", () -> x.row(i));
        }
        CHECK.missing("row(0) of none", () -> x.row(0));
        x.path(0, 9);
        CHECK.row("ten numbers", x, 0, 1, 2, 3, 4, 5, 6, 7, 8, 9);
        for (int i : wrong) {
            CHECK.missing("row(" + i + ") of ten", () -> x.row(i));
        }
        x.path(9, 8);
        CHECK.row("two numbers", x, 9, 8);
        x.path(7, 7);
        CHECK.row("one number", x, 7);
        x.mark(0, 9);
        x.fits(0, 9);
        CHECK.row("no number", x);
    }
}
