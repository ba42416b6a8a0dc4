/**
 * Sentence by sentence, each boundary case that the document names in the promises 12 to 21: acts, dinners, undoing.
 */
public final class ActEdgesTest {
    private static final Check CHECK = new Check("ActEdgesTest");
    private static final int LEAST = Integer.MIN_VALUE;
    private static final int GREATEST = Integer.MAX_VALUE;
    private static final int[] NOBODY = {-1, 3, 5, 31, 32, LEAST, GREATEST};
    /** Board a, floor b, table c; a door between a and c; two pots on a, one on c; two at a, one at b. */
    private static final String ROOM = "b;f;t;wab2;wbc3;wac9!;p100-5@a;p40-0@a;p0-0@c;h30@a;h50@a;h99@b";

    public static void main(String[] args) {
        takes();
        downs();
        walks();
        walksTogether();
        passes();
        changes();
        gives();
        folds();
        doors();
        dinnersTellActs();
        dinnersStop();
        dinnerFaults();
        dinnerLimit();
        answersOfNought();
        undoesFifteen();
        undoesWhatWasNotRefused();
        undoesAll();
        undoesDinnersAsOne();
        forgets();
        CHECK.finish();
    }

    private static HotThrough room(String rule) {
        HotThrough x = Check.told(ROOM);
        Check.rule(x, rule);
        return x;
    }

    /** Promise 12: "One takes a POT that is on the PLACE where it is: HEAT. -2: it holds one; -3: no such POT there". */
    private static void takes() {
        HotThrough x = room("40");
        for (int p : NOBODY) {
            CHECK.leaves("nobody " + p, x, () -> x.take(p, 0), -1);
            CHECK.leaves("nobody " + p + ", no pot", x, () -> x.take(p, p), -1);
        }
        int[] none = {-1, 3, 4, 5, 31, 32, LEAST, GREATEST};
        for (int pot : none) {
            CHECK.leaves("no pot " + pot, x, () -> x.take(0, pot), -3);
        }
        CHECK.leaves("on another place", x, () -> x.take(0, 2), -3);
        CHECK.leaves("one at another place", x, () -> x.take(2, 0), -3);
        CHECK.due("its heat", x.take(0, 1), 40);
        CHECK.leaves("held by another one", x, () -> x.take(1, 1), -3);
        CHECK.leaves("it holds that one", x, () -> x.take(0, 1), -2);
        CHECK.leaves("it holds another one", x, () -> x.take(0, 0), -2);
        for (int pot : none) {
            CHECK.leaves("it holds one, no pot " + pot, x, () -> x.take(0, pot), -2);
        }
        x.pass(1);
        CHECK.due("dropped", x.pot(1, 4), 1);
        CHECK.leaves("it is dropped", x, () -> x.take(0, 1), -3);
        CHECK.due("as hot as it is now", x.take(0, 0), 95);
        CHECK.due("of a table, and 0 hot", x.walk(1, 0) + x.walk(1, 1) + x.take(1, 2), 5);
        CHECK.due("it holds it", x.person(1, 6), 2);
    }

    /** Promise 13: "One sets its POT down: which. -2: it holds none; -3: it is on a floor". */
    private static void downs() {
        HotThrough x = room("0");
        for (int p : NOBODY) {
            CHECK.leaves("nobody " + p, x, () -> x.down(p), -1);
        }
        CHECK.leaves("it holds none", x, () -> x.down(0), -2);
        CHECK.leaves("it holds none, on a floor", x, () -> x.down(2), -2);
        x.take(0, 1);
        CHECK.due("on a board", x.down(0), 1);
        CHECK.due("it is there", x.pot(1, 2), 0);
        CHECK.due("it can be taken by another", x.take(1, 1), 40);
        x.walk(1, 0);
        CHECK.leaves("on a floor", x, () -> x.down(1), -3);
        x.walk(1, 1);
        CHECK.due("on a table", x.down(1), 1);
        CHECK.due("two pots are there", x.place(2, 1), 6);
        CHECK.leaves("it holds none any more", x, () -> x.down(1), -2);
    }

    /** Promise 14: "-2: no such WAY there; -3: its door is shut", and its row. */
    private static void walks() {
        HotThrough x = room("0");
        for (int p : NOBODY) {
            CHECK.leaves("nobody " + p, x, () -> x.walk(p, 0), -1);
            CHECK.leaves("nobody " + p + ", no way", x, () -> x.walk(p, 9), -1);
        }
        int[] none = {-1, 3, 13, 14, 31, 32, LEAST, GREATEST};
        for (int way : none) {
            CHECK.leaves("no way " + way, x, () -> x.walk(0, way), -2);
        }
        CHECK.leaves("not there", x, () -> x.walk(0, 1), -2);
        CHECK.leaves("not there, its door is shut", x, () -> x.walk(2, 2), -2);
        CHECK.leaves("shut", x, () -> x.walk(0, 2), -3);
        x.door(2, 1);
        CHECK.due("open", x.walk(0, 2), 9);
        CHECK.row("nobody was burnt", x, 0, 0);
        CHECK.due("as many seconds", x.count(4), 9);
        CHECK.due("it is there", x.person(0, 1), 2);
        x.door(2, 0);
        CHECK.leaves("shut again, from the other end", x, () -> x.walk(0, 2), -3);
        CHECK.due("back by others", x.walk(0, 1), 3);
        CHECK.row("nobody", x, 0, 0);
    }

    /** "how often PEOPLE were BURNT in these, how WARM the HAND is that it uses": of all, and of the one who walks. */
    private static void walksTogether() {
        HotThrough x = Check.told("b;f;wab3;p9-0@a;p8-0@a;h30@a;h20@a;h10@a");
        Check.rule(x, "8");
        x.take(0, 0);
        x.take(1, 1);
        CHECK.due("three seconds", x.walk(2, 0), 3);
        // 8, 16, 24: only the one who bears 20 is burnt
        CHECK.row("another one is burnt", x, 1, 0);
        CHECK.due("24 and dropped, less a quarter", x.person(1, 2), 18);
        CHECK.due("another walk, burnt at once", x.walk(0, 0), 3);
        // 32 less 8 is 24; 18; 14
        CHECK.row("the one who walks is burnt", x, 1, 14);
        CHECK.due("it gets there without its pot", x.person(0, 1), 1);
        CHECK.due("both are dropped", x.count(6), 3);
        x.change(0);
        CHECK.due("back", x.walk(0, 0), 3);
        CHECK.row("the other hand", x, 0, 0);
        // 18; 14, 11, 9 and 7, 6, 5 by those walks; then 4, 3, 3
        CHECK.due("the one who was burnt", x.walk(1, 0), 3);
        CHECK.row("its hand is as warm as it is then", x, 0, 3);
    }

    /** Promise 15: "n SECONDS (0 .. 99) ..; the ROW: who was (bits), POTS that were DROPPED (bits). NONE: another n". */
    private static void passes() {
        HotThrough x = Check.told("b;p9-0@a;p8-0@a;p7-0@a;p6-0@a;p5-0@a;h9@a;h9@a;h9@a;h9@a;h9@a");
        int[] wrong = {-1, 100, LEAST, GREATEST};
        for (int n : wrong) {
            CHECK.leaves("pass(" + n + ")", x, () -> x.pass(n), -1);
        }
        CHECK.due("none", x.pass(0), 0);
        CHECK.row("none", x, 0, 0);
        for (int p = 0; p < 5; p++) {
            x.take(p, 4 - p);
        }
        Check.rule(x, "(i<2)*10+3");
        CHECK.due("none, and nobody", x.pass(0), 0);
        CHECK.row("none, and nobody", x, 0, 0);
        CHECK.due("no second went by", x.count(4), 0);
        CHECK.due("two of them", x.pass(1), 2);
        CHECK.row("two of them", x, 3, 24);
        CHECK.due("nobody", x.pass(2), 0);
        CHECK.row("those of earlier seconds are not told", x, 0, 0);
        CHECK.due("the others", x.pass(99), 3);
        CHECK.row("the others", x, 28, 7);
        CHECK.due("now", x.count(4), 102);
        for (int n : wrong) {
            CHECK.leaves("then pass(" + n + ")", x, () -> x.pass(n), -1);
        }
        CHECK.due("of nobody", new HotThrough().pass(99), 0);
    }

    /** Promise 16: "One uses the other HAND from now on: which". */
    private static void changes() {
        HotThrough x = room("5");
        for (int p : NOBODY) {
            CHECK.leaves("nobody " + p, x, () -> x.change(p), -1);
        }
        x.take(1, 1);
        CHECK.due("hand 1", x.change(1), 1);
        x.pass(1);
        CHECK.due("it gets warmer", x.person(1, 3), 5);
        CHECK.due("hand 0", x.change(1), 0);
        CHECK.due("who holds none", x.change(2), 1);
        CHECK.due("time stands", x.count(4), 1);
        CHECK.due("of the first one", x.person(0, 4), 0);
    }

    /** Promise 17: "-2: it holds none, or the other one does hold one; -3: they are not at one PLACE. (Like ones: NONE.)". */
    private static void gives() {
        HotThrough x = room("7");
        for (int p : NOBODY) {
            CHECK.leaves("nobody " + p, x, () -> x.give(p, 0), -1);
            CHECK.leaves("to nobody " + p, x, () -> x.give(0, p), -1);
            CHECK.leaves("like ones, nobody " + p, x, () -> x.give(p, p), -1);
        }
        CHECK.leaves("like ones who hold none", x, () -> x.give(0, 0), -1);
        CHECK.leaves("it holds none", x, () -> x.give(0, 1), -2);
        CHECK.leaves("it holds none, and not at one place", x, () -> x.give(0, 2), -2);
        x.take(1, 1);
        CHECK.leaves("it holds none, the other does", x, () -> x.give(0, 1), -2);
        CHECK.leaves("like ones who hold one", x, () -> x.give(1, 1), -1);
        CHECK.leaves("not at one place", x, () -> x.give(1, 2), -3);
        x.take(0, 0);
        CHECK.leaves("both hold one", x, () -> x.give(0, 1), -2);
        x.walk(1, 0);
        CHECK.leaves("both hold one, not at one place", x, () -> x.give(0, 1), -2);
        CHECK.due("at one place, a floor", x.give(1, 2), 1);
        CHECK.due("time does not go by", x.count(4), 2);
        CHECK.due("the other holds it", x.pot(1, 3), 2);
        CHECK.due("it does not", x.person(1, 6), -1);
        CHECK.due("the hand stays warm", x.person(1, 2), 14);
        CHECK.due("the other's is not", x.person(2, 2), 0);
    }

    /** Promise 18: "FOLD of one becomes v (0 .. 9): what it was. NONE: another v, too". */
    private static void folds() {
        HotThrough x = room("0");
        for (int p : NOBODY) {
            CHECK.leaves("nobody " + p, x, () -> x.fold(p, 1), -1);
            CHECK.leaves("nobody " + p + ", another v", x, () -> x.fold(p, 10), -1);
        }
        int[] wrong = {-1, 10, LEAST, GREATEST};
        for (int v : wrong) {
            CHECK.leaves("fold(0, " + v + ")", x, () -> x.fold(0, v), -1);
        }
        CHECK.due("9", x.fold(0, 9), 0);
        CHECK.due("0", x.fold(0, 0), 9);
        CHECK.due("1", x.fold(0, 1), 0);
        CHECK.due("1 again", x.fold(0, 1), 1);
        CHECK.due("of another one", x.person(1, 5), 0);
    }

    /** Promise 19: "The door of a WAY is opened (1), or shut (0): how many ..  Refused: no door, others". */
    private static void doors() {
        HotThrough x = room("0");
        CHECK.leaves("no door", x, () -> x.door(0, 1), -1);
        CHECK.leaves("no door to shut", x, () -> x.door(0, 0), -1);
        int[] none = {-1, 3, 14, 31, 32, 34, LEAST, GREATEST};
        for (int way : none) {
            CHECK.leaves("no way " + way, x, () -> x.door(way, 1), -1);
        }
        int[] wrong = {-1, 2, 3, LEAST, GREATEST};
        for (int v : wrong) {
            CHECK.leaves("door(2, " + v + ")", x, () -> x.door(2, v), -1);
        }
        CHECK.due("shut as it is", x.door(2, 0), 0);
        CHECK.due("opened", x.door(2, 1), 1);
        for (int v : wrong) {
            CHECK.leaves("open, door(2, " + v + ")", x, () -> x.door(2, v), -1);
        }
        CHECK.due("open as it is", x.door(2, 1), 1);
        CHECK.due("shut", x.door(2, 0), 0);
        HotThrough y = Check.told("f;f", "wab1!;wab1!;wab1!;wab1!;wab1!;wab1!;wab1!;wab1!;wab1!;wab1!;wab1!;wab1!", "wab1!;wab1!");
        for (int way = 13; way >= 0; way--) {
            CHECK.due("door " + way, y.door(way, 1), 14 - way);
        }
        CHECK.due("all fourteen", y.count(5), (1 << 14) - 1);
        CHECK.due("one is shut", y.door(7, 0), 13);
        CHECK.due("all but that one", y.count(5), (1 << 14) - 1 - (1 << 7));
    }

    /** Promise 20: "t, a digit, a digit: take(); d ..; w, a digit, a number (1 or 2 digits); s ..; c ..; g ..; o ..". */
    private static void dinnersTellActs() {
        HotThrough x = room("5");
        CHECK.due("an empty one", x.dinner(), 0);
        CHECK.row("an empty one", x, 0, 0);
        CHECK.due("it can't be undone", x.count(8), 0);
        CHECK.due("one act", Check.dinner(x, "t01"), 1);
        CHECK.row("one act", x, 0, 0);
        CHECK.due("no text is left", x.count(11), 0);
        CHECK.due("it holds it", x.person(0, 6), 1);
        CHECK.due("ways of one and of two digits", Check.dinner(x, "w00;w000;w01"), 2);
        CHECK.row("way 1 is not there", x, 1, 0);
        CHECK.due("four seconds", x.count(4), 4);
        CHECK.due("seconds of one and of two digits", Check.dinner(x, "s1;s01;s00;s0"), 4);
        CHECK.due("two more", x.count(4), 6);
        CHECK.due("doors of one and of two digits", Check.dinner(x, "o2;o02"), 2);
        CHECK.due("open", x.count(5), 4);
        CHECK.due("hands, giving, setting down", Check.dinner(x, "c0;c1;g01;d1"), 4);
        CHECK.due("hands", x.person(0, 4) * 10 + x.person(1, 4), 11);
        CHECK.due("it is on a", x.pot(1, 2), 0);
        HotThrough y = room("0");
        CHECK.due("99 seconds", Check.dinner(y, "s99"), 1);
        CHECK.due("now", y.count(4), 99);
        CHECK.due("no way 10", Check.dinner(y, "w010;s1"), 0);
        CHECK.row("no way 10", y, 1, 0);
        CHECK.due("no way 99", Check.dinner(y, "w099;s1"), 0);
        CHECK.due("no door 99", Check.dinner(y, "o99;s1"), 0);
        HotThrough z = Check.told("f;f;h9@a", "wab1;wab1;wab1;wab1;wab1;wab1;wab1;wab1;wab1;wab1;wab1;wab1", "wab2;wab3!");
        CHECK.due("way 12 and door 13", Check.dinner(z, "w012;o13;w013"), 3);
        CHECK.due("five seconds", z.count(4), 5);
    }

    /** Promise 20: "they are done one by one, till one is refused: how many were done; the ROW: 1 if one was refused". */
    private static void dinnersStop() {
        String[] refused = {"t30", "t90", "t09", "t02", "d0", "d9", "w90", "w09", "w01", "w02", "c3", "c9", "g01", "g02", "g00",
            "g09", "g90", "o0", "o3", "o99"};
        for (String act : refused) {
            HotThrough x = room("0");
            String before = Check.state(x);
            CHECK.due("first " + act, Check.dinner(x, act + ";s1"), 0);
            CHECK.row("first " + act, x, 1, 0);
            CHECK.due("nothing is done behind " + act, Check.state(x).equals(before), true);
            CHECK.due("last " + act, Check.dinner(x, "s2;" + act), 1);
            CHECK.row("last " + act, x, 1, 0);
            CHECK.due("two seconds ahead of " + act, x.count(4), 2);
            CHECK.due("between, " + act, Check.dinner(x, "s2;s3;" + act + ";s50"), 2);
            CHECK.row("between, " + act, x, 1, 0);
            CHECK.due("seven seconds ahead of " + act, x.count(4), 7);
            CHECK.due("two dinners to undo", x.count(8), 2);
        }
        HotThrough x = room("0");
        CHECK.due("it holds one", Check.dinner(x, "t00;t01;s9"), 1);
        CHECK.due("it is on a floor", Check.dinner(x, "w00;d0;s9"), 1);
        CHECK.due("not at one place", Check.dinner(x, "g01;s9"), 0);
        CHECK.due("now", x.count(4), 2);
        HotThrough y = room("35");
        CHECK.due("a burning is no refusal", Check.dinner(y, "t01;s1;c1;s99"), 4);
        CHECK.row("a burning is no refusal", y, 0, 1);
        CHECK.due("but there is nothing to set down", Check.dinner(y, "t00;s1;d0;s1"), 2);
        CHECK.row("but there is nothing to set down", y, 1, 1);
        CHECK.due("two burnings by a walk and a rest", Check.dinner(room("9"), "t01;t10;w00;s9"), 4);
    }

    /** Promise 20: "-1 - p: the sign at p can't stand there (its end, if it ends too early ..); nothing is done then". */
    private static void dinnerFaults() {
        String[] texts = {"x", "\0", ";", " s1", "s1 ", "s1;", "s1;;s1", "s1;x", "s1s1", "f00", "p1", "T00", "S1",
            "t", "t0", "t0;", "tx", "t0x", "t000", "t:0", "t0/", "d", "d;", "d00", "w", "w0", "w0;", "wx", "w0x", "w000!", "w0000",
            "s", "s;", "sx", "s000", "s100", "s-1", "c", "c00", "cx", "g", "g0", "g0x", "g010", "o", "ox", "o000", "s1;c0;o2;t0"};
        int[] places = {0, 0, 0, 0, 2, 3, 3, 3, 2, 0, 0, 0, 0,
            1, 2, 2, 1, 2, 3, 1, 2, 1, 1, 2, 1, 2, 2, 1, 2, 4, 4,
            1, 1, 1, 3, 3, 1, 1, 2, 1, 1, 2, 2, 3, 1, 1, 3, 11};
        CHECK.due("as many texts as places", texts.length, places.length);
        for (int i = 0; i < texts.length; i++) {
            dinnerFault(texts[i], places[i]);
        }
    }

    private static void dinnerFault(String text, int p) {
        HotThrough x = room("10");
        x.path(0, 2);
        String before = Check.all(x);
        CHECK.due("of " + text, Check.dinner(x, text), -1 - p);
        CHECK.due("nothing is done, and no text is left, of " + text, Check.all(x).equals(before), true);
    }

    /** Promise 20: "60, if it has more and the first 60 could go on or end". */
    private static void dinnerLimit() {
        String acts = "c0;c0;c0;c0;c0;c0;c0;c0;c0;c0;c0;c0;c0;c0;c0;c0;c0;c0;c0;";
        CHECK.due("57 signs", acts.length(), 57);
        HotThrough x = room("0");
        CHECK.due("60 that end", Check.dinner(x, acts + "s10"), 20);
        CHECK.row("60 that end", x, 0, 0);
        CHECK.due("ten seconds", x.count(4), 10);
        CHECK.due("nineteen changes", x.person(0, 4), 1);
        CHECK.due("59", Check.dinner(x, acts + "s5"), 20);
        CHECK.due("57 that want one more", Check.dinner(x, acts), -58);
        String[] tails = {"s10;", "s10x", "s100", "s10;s1", "c0;c0", "c0;x", "w000", "t010", "t00;c0", "w0000", "g01xxx"};
        for (String tail : tails) {
            dinnerFault(acts + tail, 60);
        }
        dinnerFault(acts + "t0", 59);
        dinnerFault(acts + "w0", 59);
        dinnerFault(acts + "c0;", 60);
        dinnerFault(acts + "c0xs1", 59);
        dinnerFault(acts + "s;c0c", 58);
        dinnerFault(acts + "xs1;s1", 57);
    }

    /** Answers of 0 are no refusals: such acts go on, and can be undone. */
    private static void answersOfNought() {
        HotThrough x = Check.told("t;f;wab1!;p0-0@a;h9@a;h9@a");
        CHECK.due("heat 0", x.take(0, 0), 0);
        CHECK.due("one act", x.count(8), 1);
        CHECK.due("pot 0 is given", x.give(0, 1), 0);
        CHECK.due("two acts", x.count(8), 2);
        CHECK.due("pot 0 is set down", x.down(1), 0);
        CHECK.due("three acts", x.count(8), 3);
        CHECK.due("fold was 0", x.fold(0, 0), 0);
        CHECK.due("four acts", x.count(8), 4);
        CHECK.due("no door is open", x.door(0, 0), 0);
        CHECK.due("five acts", x.count(8), 5);
        CHECK.due("hand 1", x.change(0), 1);
        CHECK.due("hand 0", x.change(0), 0);
        CHECK.due("seven acts", x.count(8), 7);
        CHECK.due("nobody was burnt", x.pass(1), 0);
        CHECK.due("eight acts", x.count(8), 8);
        CHECK.due("no seconds", x.pass(0), 0);
        CHECK.due("that is none", x.count(8), 8);
        CHECK.due("a dinner of them", Check.dinner(x, "t00;g01;d1;c0;c0;s0"), 6);
        CHECK.row("a dinner of them", x, 0, 0);
        CHECK.due("nine acts", x.count(8), 9);
        CHECK.due("no act was done", Check.dinner(x, "d0"), 0);
        CHECK.due("nine acts still", x.count(8), 9);
        for (int left = 8; left >= 0; left--) {
            CHECK.due("undone", x.undo(), left);
        }
        CHECK.leaves("no more", x, x::undo, -1);
    }

    /** Promise 21: "of 15 that are kept, the latest ones .. how many are left that can be. Refused: none". */
    private static void undoesFifteen() {
        for (int acts = 0; acts <= 40; acts++) {
            HotThrough x = room("0");
            for (int k = 1; k <= acts; k++) {
                x.pass(k);
                CHECK.due("kept behind " + k, x.count(8), Math.min(15, k));
            }
            int now = acts * (acts + 1) / 2;
            int left = Math.min(15, acts);
            for (int k = acts; k > acts - left; k--) {
                CHECK.due("left of " + acts, x.undo(), left - 1 - (acts - k));
                now -= k;
                CHECK.due("now", x.count(4), now);
            }
            CHECK.leaves("none is left of " + acts, x, x::undo, -1);
        }
        HotThrough x = room("0");
        for (int k = 0; k < 20; k++) {
            x.pass(1);
        }
        x.undo();
        x.undo();
        x.pass(9);
        CHECK.due("fourteen behind two undone", x.count(8), 14);
        x.pass(9);
        x.pass(9);
        CHECK.due("fifteen", x.count(8), 15);
        for (int k = 0; k < 15; k++) {
            x.undo();
        }
        CHECK.due("the first six stay done", x.count(4), 6);
        CHECK.due("none", x.undo(), -1);
        HotThrough y = room("0");
        for (int k = 0; k < 480; k++) {
            y.pass(1);
        }
        for (int left = 14; left >= 0; left--) {
            CHECK.due("behind 480 acts", y.undo(), left);
        }
        CHECK.leaves("no sixteenth behind 480 acts", y, y::undo, -1);
        CHECK.due("465 stay done", y.count(4), 465);
    }

    /** Promise 21: "such as were not refused; pass() of 1 and more; dinner() of which one ACT was done". */
    private static void undoesWhatWasNotRefused() {
        HotThrough x = room("0");
        x.change(0);
        x.take(3, 0);
        x.take(0, 2);
        x.down(0);
        x.down(9);
        x.walk(0, 1);
        x.walk(0, 2);
        x.walk(9, 0);
        x.pass(-1);
        x.pass(100);
        x.pass(0);
        x.change(9);
        x.give(0, 0);
        x.give(0, 1);
        x.fold(0, 10);
        x.door(0, 1);
        x.dinner();
        Check.dinner(x, "x");
        Check.dinner(x, "d0;s1");
        CHECK.due("one of them was not", x.count(8), 1);
        x.heat(0, 7);
        x.sheet(2, 1, 9, 9);
        x.mark(0, 0);
        x.wipe();
        x.keep(0);
        Check.rule(x, "1");
        x.lasts(0);
        x.serve(0, 1, 2, 0);
        CHECK.due("others are no acts", x.count(8), 1);
        CHECK.due("undone", x.undo(), 0);
        CHECK.due("hand 0", x.person(0, 4), 0);
        CHECK.due("no more", x.undo(), -1);
        HotThrough y = room("0");
        for (int k = 0; k < 15; k++) {
            y.change(0);
        }
        y.fold(0, 10);
        y.walk(0, 1);
        y.pass(0);
        Check.dinner(y, "d0");
        for (int k = 14; k >= 0; k--) {
            CHECK.due("refused ones push none out", y.undo(), k);
        }
        CHECK.due("hand 0 at last", y.person(0, 4), 0);
    }

    /** Promise 21: "(POTS, PEOPLE, doors, NOW are as ahead of it)": all of them, but nothing else. */
    private static void undoesAll() {
        HotThrough x = room("15");
        x.take(0, 1);
        x.fold(0, 4);
        x.change(1);
        x.door(2, 1);
        x.path(0, 2);
        x.mark(1, 2);
        String[] due = new String[ACTS];
        for (int k = 0; k < ACTS; k++) {
            due[k] = Check.state(x);
            CHECK.due("act " + k, act(x, k) >= 0, true);
        }
        CHECK.due("one was burnt", x.count(7), 1);
        x.rule();
        for (int k = ACTS - 1; k >= 0; k--) {
            String row = row(x);
            CHECK.due("act " + k + " undone", x.undo(), 4 + k);
            CHECK.due("as ahead of act " + k, Check.state(x).equals(due[k]), true);
            CHECK.due("the row stays", row(x).equals(row), true);
        }
        CHECK.due("the rule is not undone: 100/1", x.take(1, 0) * 1000 + x.person(1, 8), 100100);
        CHECK.due("marks are not", x.count(9), 1);
    }

    private static final int ACTS = 10;

    private static int act(HotThrough x, int k) {
        switch (k) {
            case 0: return x.take(1, 0);
            case 1: return x.change(1);
            case 2: return x.walk(1, 0);
            case 3: return x.give(1, 2);
            case 4: return x.fold(2, 3);
            case 5: return x.pass(2);
            case 6: return x.door(2, 0);
            case 7: return x.walk(2, 1);
            case 8: return x.down(2);
            default: return Check.dinner(x, "t22;s1;o2;c0");
        }
    }

    private static String row(HotThrough x) {
        StringBuilder s = new StringBuilder();
        for (int i = 0; i < x.count(10); i++) {
            s.append(x.row(i)).append(' ');
        }
        return s.toString();
    }

    /** Promise 21: "dinner() of which one ACT was done, as one". */
    private static void undoesDinnersAsOne() {
        HotThrough x = room("20");
        String before = Check.state(x);
        CHECK.due("all acts", Check.dinner(x, "t01;o2;c1;s1;g01;s9;w00;s5"), 8);
        CHECK.due("one to undo", x.count(8), 1);
        CHECK.due("undone", x.undo(), 0);
        CHECK.due("as ahead of all", Check.state(x).equals(before), true);
        CHECK.due("one of two", Check.dinner(x, "s3;d0"), 1);
        CHECK.due("one to undo", x.count(8), 1);
        CHECK.due("none of two", Check.dinner(x, "d0;s3"), 0);
        CHECK.due("still one", x.count(8), 1);
        CHECK.due("undone", x.undo(), 0);
        CHECK.due("as ahead of all", Check.state(x).equals(before), true);
        CHECK.due("no time goes by", Check.dinner(x, "s0"), 1);
        CHECK.due("one to undo", x.count(8), 1);
    }

    /** Promise 21: "(kitchen() and again() forget them, if they are not refused; an empty kitchen() does not.)". */
    private static void forgets() {
        String[] lines = {"f", "wab1", "p1-1@a", "h1@a"};
        for (String line : lines) {
            HotThrough x = room("0");
            x.keep(1);
            x.change(0);
            x.change(1);
            CHECK.due("refused", Check.kitchen(x, line + ";x"), -2 - line.length());
            CHECK.due("an empty one", x.kitchen(), 0);
            CHECK.due("nothing kept", x.again(0), false);
            CHECK.due("no such number", x.again(3), false);
            CHECK.due("none is forgotten", x.count(8), 2);
            CHECK.due("one is undone", x.undo(), 1);
            CHECK.due("one line: " + line, Check.kitchen(x, line), 1);
            CHECK.due("all are forgotten by " + line, x.count(8), 0);
            CHECK.leaves("none can be undone behind " + line, x, x::undo, -1);
            CHECK.due("the hand stays", x.person(0, 4), 1);
            CHECK.due("the other is as it was", x.person(1, 4), 0);
        }
        HotThrough x = room("0");
        x.change(0);
        x.keep(1);
        CHECK.due("keeping forgets none", x.count(8), 1);
        x.change(0);
        CHECK.due("again", x.again(1), true);
        CHECK.due("all are forgotten", x.count(8), 0);
        CHECK.leaves("none can be undone", x, x::undo, -1);
        for (int k = 0; k < 20; k++) {
            x.pass(1);
        }
        x.again(1);
        x.pass(1);
        CHECK.due("one anew", x.count(8), 1);
        CHECK.due("undone", x.undo(), 0);
        CHECK.due("now", x.count(4), 0);
    }
}
