/** Promises 12 to 21: acts, dinners, and undoing them; and how a second goes by. */
public final class ActsTest {
    private static final Check CHECK = new Check("ActsTest");
    /** Board a, floor b, table c; a door between a and c; two pots on a; two at a, one at b. */
    private static final String ROOM = "b;f;t;wab2;wbc3;wac9!;p100-5@a;p40-0@a;h30@a;h50@a;h99@b";

    public static void main(String[] args) {
        seconds();
        burningSeconds();
        taking();
        settingDown();
        walking();
        passing();
        changing();
        giving();
        folding();
        doors();
        dinners();
        dinnerFaults();
        dinnerUndone();
        undoing();
        undoingEach();
        fiveCooks();
        dinnerBurnings();
        undoingLimit();
        CHECK.finish();
    }

    private static HotThrough room(String rule) {
        HotThrough x = Check.told(ROOM);
        Check.rule(x, rule);
        return x;
    }

    private static void seconds() {
        HotThrough x = room("h/10");
        x.take(1, 0);
        x.pass(1);
        CHECK.due("warmer by 100/10", x.person(1, 2), 10);
        CHECK.due("the pot cools behind that", x.pot(0, 0), 95);
        x.pass(1);
        CHECK.due("warmer by 95/10", x.person(1, 2), 19);
        x.change(1);
        x.pass(1);
        CHECK.due("the hand that is not used is a quarter less warm", x.person(1, 2), 15);
        CHECK.due("the other one is used", x.person(1, 3), 9);
        CHECK.due("now", x.count(4), 3);
        CHECK.due("a pot that cools by 0", x.pot(1, 0), 40);
        x.down(1);
        x.pass(1);
        CHECK.due("both hands cool: 15", x.person(1, 2), 12);
        CHECK.due("both hands cool: 9", x.person(1, 3), 7);
        CHECK.due("a pot on a place cools", x.pot(0, 0), 80);
        x.pass(9);
        x.pass(8);
        CHECK.due("not below 0", x.pot(0, 0), 0);
        CHECK.due("a quarter of 3 is 0", x.person(1, 2), 3);
        Check.rule(x, "s*10");
        HotThrough y = room("s*10");
        y.take(1, 1);
        y.pass(2);
        CHECK.due("now as the second begins", y.person(1, 2), 10);
    }

    private static void burningSeconds() {
        HotThrough x = room("30");
        x.take(0, 1);
        CHECK.due("as warm as one bears", x.pass(1), 0);
        CHECK.due("warm 30", x.person(0, 2), 30);
        x.change(0);
        x.pass(1);
        CHECK.due("hand 0 has cooled", x.person(0, 2), 23);
        x.pass(1);
        CHECK.due("burnt", x.person(0, 7), 1);
        CHECK.due("the hand that was burnt cools too: 60", x.person(0, 3), 45);
        CHECK.due("as the other: 23", x.person(0, 2), 18);
        CHECK.due("the pot is cold", x.pot(1, 0), 0);
        CHECK.due("it is dropped", x.pot(1, 4), 1);
        CHECK.due("it is nowhere", x.place(0, 1), 1);
        CHECK.due("dropped, bits", x.count(6), 2);
        CHECK.due("burnt, of all", x.count(7), 1);
        CHECK.due("it can't be taken", x.take(0, 1), -3);
        CHECK.due("the other can", x.take(0, 0), 85);
        CHECK.due("it was warm already", x.pass(1), 1);
        CHECK.due("burnt twice", x.person(0, 7), 2);
        HotThrough y = room("999");
        y.take(2, 0);
        y.take(1, 1);
        y.pass(1);
        CHECK.due("one drops what it holds", y.person(1, 7), 1);
        CHECK.due("999 less a quarter", y.person(1, 2), 750);
        CHECK.due("it took none: another place", y.person(2, 7), 0);
        HotThrough z = Check.told("t;h99@a;p9-0@a;p9-0@a;p9-0@a;p9-0@a;p9-0@a");
        Check.rule(z, "999");
        for (int pot = 0; pot < 5; pot++) {
            z.take(0, pot);
            z.pass(1);
        }
        CHECK.due("all five dropped", z.count(6), 31);
        CHECK.due("burnt five times", z.person(0, 7), 5);
    }

    private static void taking() {
        HotThrough x = room("0");
        CHECK.due("its heat", x.take(0, 0), 100);
        CHECK.due("holds one", x.take(0, 1), -2);
        CHECK.due("holds one, no such pot", x.take(0, 9), -2);
        CHECK.due("held by another", x.take(1, 0), -3);
        CHECK.due("not where it is", x.take(2, 1), -3);
        CHECK.due("no such pot", x.take(1, 2), -3);
        CHECK.due("no pot -1", x.take(1, -1), -3);
        CHECK.due("none such", x.take(3, 1), -1);
        CHECK.due("nobody -1", x.take(-1, 1), -1);
        CHECK.due("one act alone", x.count(8), 1);
        CHECK.due("holder", x.pot(0, 3), 0);
    }

    private static void settingDown() {
        HotThrough x = room("0");
        CHECK.due("holds none", x.down(0), -2);
        x.take(0, 1);
        x.walk(0, 0);
        CHECK.due("a floor", x.down(0), -3);
        x.walk(0, 1);
        CHECK.due("a table", x.down(0), 1);
        CHECK.due("it is there", x.pot(1, 2), 2);
        CHECK.due("held by nobody", x.pot(1, 3), -1);
        CHECK.due("holds none now", x.person(0, 6), -1);
        CHECK.due("none such", x.down(3), -1);
        CHECK.due("nobody -1", x.down(-1), -1);
        CHECK.due("four acts", x.count(8), 4);
    }

    private static void walking() {
        HotThrough x = room("10");
        x.take(0, 0);
        x.take(1, 1);
        CHECK.due("no such way", x.walk(0, 3), -2);
        CHECK.due("way -1", x.walk(0, -1), -2);
        CHECK.due("no way there", x.walk(0, 1), -2);
        CHECK.due("shut", x.walk(0, 2), -3);
        CHECK.due("nobody", x.walk(3, 0), -1);
        CHECK.due("time stands", x.count(4), 0);
        CHECK.due("no row yet", x.count(10), 0);
        CHECK.due("two steps", x.walk(0, 0), 2);
        CHECK.row("a walk", x, 0, 20);
        CHECK.due("at b", x.person(0, 1), 1);
        CHECK.due("the others' seconds go by too", x.person(1, 2), 20);
        CHECK.due("three steps", x.walk(0, 1), 3);
        // 30, then 40 and dropped; both hands cool in that second, and in the next one
        CHECK.row("a burning walk", x, 1, 23);
        CHECK.due("it goes on, though", x.person(0, 1), 2);
        CHECK.due("dropped", x.count(6), 1);
        x.door(2, 1);
        CHECK.due("by the door, back", x.walk(0, 2), 9);
        CHECK.row("another is burnt then", x, 1, x.person(0, 2));
        CHECK.due("at a", x.person(0, 1), 0);
        CHECK.due("now", x.count(4), 14);
        CHECK.due("refused", x.walk(0, 9), -2);
        CHECK.row("the row stays", x, 1, x.person(0, 2));
        x.change(0);
        x.walk(0, 0);
        CHECK.row("the hand that is used", x, 0, 0);
        HotThrough y = room("10");
        y.take(1, 1);
        CHECK.due("another one", y.walk(1, 0), 2);
        CHECK.row("another one", y, 0, 20);
    }

    private static void passing() {
        HotThrough x = room("20");
        CHECK.due("none", x.pass(0), 0);
        CHECK.row("none", x, 0, 0);
        CHECK.due("not to be undone", x.count(8), 0);
        x.take(0, 1);
        x.take(1, 0);
        CHECK.due("no seconds", x.pass(0), 0);
        CHECK.due("not to be undone", x.count(8), 2);
        CHECK.due("one second", x.pass(1), 0);
        CHECK.row("one second", x, 0, 0);
        CHECK.due("both", x.pass(9), 2);
        CHECK.row("both", x, 3, 3);
        CHECK.due("100", x.pass(100), -1);
        CHECK.due("-1", x.pass(-1), -1);
        CHECK.row("refused ones", x, 3, 3);
        CHECK.due("99", x.pass(99), 0);
        CHECK.row("99", x, 0, 0);
        CHECK.due("now", x.count(4), 109);
        HotThrough y = room("60");
        y.take(1, 1);
        CHECK.due("the second of them", y.pass(3), 1);
        CHECK.row("the second of them", y, 2, 2);
    }

    private static void changing() {
        HotThrough x = room("7");
        CHECK.due("hand 1", x.change(0), 1);
        CHECK.due("hand 0", x.change(0), 0);
        CHECK.due("hand 1 of another", x.change(2), 1);
        CHECK.due("hand 0 of the first", x.person(0, 4), 0);
        CHECK.due("none such", x.change(3), -1);
        CHECK.due("nobody -1", x.change(-1), -1);
        CHECK.due("three acts", x.count(8), 3);
    }

    private static void giving() {
        HotThrough x = room("0");
        CHECK.due("holds none", x.give(0, 1), -2);
        x.take(0, 1);
        CHECK.due("the other is elsewhere", x.give(0, 2), -3);
        CHECK.due("given", x.give(0, 1), 1);
        CHECK.due("who holds it", x.pot(1, 3), 1);
        CHECK.due("it does", x.person(1, 6), 1);
        CHECK.due("the other does not", x.person(0, 6), -1);
        x.take(0, 0);
        CHECK.due("the other holds one", x.give(0, 1), -2);
        CHECK.due("like ones", x.give(0, 0), -1);
        CHECK.due("none such", x.give(0, 3), -1);
        CHECK.due("nobody", x.give(3, 0), -1);
        CHECK.due("-1", x.give(-1, 0), -1);
        CHECK.due("to -1", x.give(0, -1), -1);
        CHECK.due("three acts", x.count(8), 3);
        x.walk(1, 0);
        CHECK.due("both hold one, elsewhere", x.give(0, 1), -2);
    }

    private static void folding() {
        HotThrough x = room("0");
        CHECK.due("was 0", x.fold(1, 9), 0);
        CHECK.due("was 9", x.fold(1, 9), 9);
        CHECK.due("two acts", x.count(8), 2);
        CHECK.due("is 9", x.person(1, 5), 9);
        CHECK.due("10", x.fold(1, 10), -1);
        CHECK.due("0 again", x.fold(1, 0), 9);
        CHECK.due("undone", x.undo(), 2);
        CHECK.due("9 again", x.person(1, 5), 9);
        CHECK.due("-1", x.fold(1, -1), -1);
        CHECK.due("none such", x.fold(3, 1), -1);
        CHECK.due("nobody -1", x.fold(-1, 1), -1);
        CHECK.due("still two acts", x.count(8), 2);
        CHECK.due("of another", x.person(0, 5), 0);
    }

    private static void doors() {
        HotThrough x = Check.told("f;f;wab1;wab2!;wab3!");
        CHECK.due("one is open", x.door(1, 1), 1);
        CHECK.due("still one", x.door(1, 1), 1);
        CHECK.due("two", x.door(2, 1), 2);
        CHECK.due("bits", x.count(5), 6);
        CHECK.due("one again", x.door(1, 0), 1);
        CHECK.due("bits", x.count(5), 4);
        CHECK.due("shut", x.way(1, 3), 1);
        CHECK.due("no door", x.door(0, 1), -1);
        CHECK.due("no way", x.door(3, 1), -1);
        CHECK.due("way -1", x.door(-1, 1), -1);
        CHECK.due("2", x.door(1, 2), -1);
        CHECK.due("-1", x.door(1, -1), -1);
        CHECK.due("four acts", x.count(8), 4);
    }

    private static void dinners() {
        HotThrough x = room("10");
        CHECK.due("nothing", x.dinner(), 0);
        CHECK.row("nothing", x, 0, 0);
        CHECK.due("nothing to undo", x.count(8), 0);
        CHECK.due("burnt by way 1", Check.dinner(x, "t01;s2;c0;w00;w001;d0;s0"), 5);
        CHECK.row("there is nothing to set down", x, 1, 1);
        CHECK.due("where it is", x.person(0, 1), 2);
        x.undo();
        CHECK.due("all of it is undone", x.person(0, 1) + x.count(4) + x.person(0, 4), 0);
        Check.rule(x, "7");
        CHECK.due("a whole one", Check.dinner(x, "t01;s2;c0;w00;c0;w01;d0;o2;o02;s00;c1"), 11);
        CHECK.row("a whole one", x, 0, 0);
        CHECK.due("where the pot is", x.pot(1, 2), 2);
        CHECK.due("how warm the hand is", x.person(0, 2), 30);
        CHECK.due("one to undo", x.count(8), 1);
        HotThrough y = room("10");
        CHECK.due("given on", Check.dinner(y, "t01;g01;w100;d1;t10"), 3);
        CHECK.row("given on", y, 1, 0);
        CHECK.due("one way", y.person(1, 1), 1);
        CHECK.due("a door, opened", Check.dinner(y, "o2;o0;s5"), 1);
        CHECK.row("a door", y, 1, 0);
        CHECK.due("doors", y.count(5), 4);
        CHECK.due("seconds of two digits", Check.dinner(y, "s99;s1"), 2);
        CHECK.row("burnt meanwhile", y, 0, 1);
        CHECK.due("now", y.count(4), 102);
        CHECK.due("nobody", Check.dinner(y, "c9;s1"), 0);
        CHECK.row("nobody", y, 1, 0);
        CHECK.due("now", y.count(4), 102);
        CHECK.due("burnt twice in one dinner", Check.dinner(room("99"), "t01;s1;t00;s1"), 4);
    }

    private static void dinnerFault(String text, int want) {
        HotThrough x = room("10");
        x.pass(1);
        CHECK.due("dinner " + text, Check.dinner(x, text), want);
        CHECK.due("nothing is done of " + text, x.count(8) + x.count(4), 2);
        CHECK.row("the row as it was, at " + text, x, 0, 0);
        CHECK.due("no text is left of " + text, x.count(11), 0);
    }

    private static void dinnerFaults() {
        dinnerFault("x", -1);
        dinnerFault(";", -1);
        dinnerFault("s1;", -4);
        dinnerFault("s1;;", -4);
        dinnerFault("t", -2);
        dinnerFault("t0", -3);
        dinnerFault("t0;", -3);
        dinnerFault("t000", -4);
        dinnerFault("d", -2);
        dinnerFault("d00", -3);
        dinnerFault("dx", -2);
        dinnerFault("w", -2);
        dinnerFault("w0", -3);
        dinnerFault("w0123", -5);
        dinnerFault("w0x", -3);
        dinnerFault("s", -2);
        dinnerFault("s123", -4);
        dinnerFault("c", -2);
        dinnerFault("c00", -3);
        dinnerFault("g0", -3);
        dinnerFault("g012", -4);
        dinnerFault("o", -2);
        dinnerFault("o123", -4);
        dinnerFault("s1 ", -3);
        dinnerFault("f00", -1);
        dinnerFault("s1;T00", -4);
        String fifty = "c0;c0;c0;c0;c0;c0;c0;c0;c0;c0;c0;c0;c0;c0;c0;c0;c0;c0;c0;";
        dinnerFault(fifty + "s99" + ";c0", -61);
        dinnerFault(fifty + "s99" + "x", -61);
        dinnerFault(fifty + "c0x" + ";c0", -60);
        dinnerFault(fifty + "t00" + "0", -61);
        dinnerFault(fifty + "w00" + "0", -61);
        dinnerFault(fifty + "c0;" + "c0", -61);
        HotThrough x = room("10");
        CHECK.due("sixty signs", Check.dinner(x, fifty + "s99"), 20);
        CHECK.row("sixty signs", x, 0, 0);
        CHECK.due("now", x.count(4), 99);
    }

    private static void dinnerUndone() {
        HotThrough x = room("10");
        CHECK.due("no time goes by", Check.dinner(x, "s0"), 1);
        CHECK.due("but one was done", x.count(8), 1);
        CHECK.due("none was done", Check.dinner(x, "d0;s1"), 0);
        CHECK.due("nothing more", x.count(8), 1);
        CHECK.due("one, then none", Check.dinner(x, "c0;d0"), 1);
        CHECK.due("one more", x.count(8), 2);
        CHECK.due("undone", x.undo(), 1);
        CHECK.due("hand 0 again", x.person(0, 4), 0);
    }

    private static void undoing() {
        HotThrough x = room("25");
        CHECK.due("none", x.undo(), -1);
        x.take(0, 1);
        x.fold(0, 3);
        x.door(2, 1);
        x.pass(2);
        CHECK.due("burnt", x.count(7), 1);
        x.change(1);
        CHECK.due("five", x.count(8), 5);
        CHECK.due("change undone", x.undo(), 4);
        CHECK.due("hand", x.person(1, 4), 0);
        CHECK.due("pass undone", x.undo(), 3);
        CHECK.due("not burnt", x.count(7), 0);
        CHECK.due("not dropped", x.count(6), 0);
        CHECK.due("now", x.count(4), 0);
        CHECK.due("it holds it", x.person(0, 6), 1);
        CHECK.due("as hot", x.pot(1, 0), 40);
        CHECK.due("not warm", x.person(0, 2), 0);
        CHECK.due("the row stays", x.row(0), 1);
        CHECK.due("door undone", x.undo(), 2);
        CHECK.due("shut", x.count(5), 0);
        CHECK.due("fold undone", x.undo(), 1);
        CHECK.due("fold", x.person(0, 5), 0);
        CHECK.due("take undone", x.undo(), 0);
        CHECK.due("on a", x.pot(1, 2), 0);
        CHECK.due("none", x.undo(), -1);
        x.take(0, 0);
        x.give(0, 1);
        x.walk(1, 0);
        CHECK.due("walk undone", x.undo(), 2);
        CHECK.due("at a", x.person(1, 1), 0);
        CHECK.due("give undone", x.undo(), 1);
        CHECK.due("it holds it", x.person(0, 6), 0);
        x.down(0);
        CHECK.due("down undone", x.undo(), 1);
        CHECK.due("it holds it again", x.pot(0, 3), 0);
        x.mark(0, 0);
        x.undo();
        CHECK.due("marks stay", x.count(9), 1);
    }

    /** Each act is undone to what was just ahead of it, heats that were put since the one before it, too. */
    private static void undoingEach() {
        HotThrough x = Check.told("b;b;wab2;wab2!;p100-5@a;p40-1@b;h30@a;h50@a;h60@b;h70@b;h80@b");
        Check.rule(x, "9");
        for (int act = 0; act < 9; act++) {
            if (act == 1 || act == 5) {
                x.take(0, 0);
            }
            x.heat(1, 500 + act);
            x.heat(0, 300 + act);
            int acts = x.count(8);
            CHECK.due("act " + act, act(x, act) >= 0, true);
            CHECK.due("one more behind act " + act, x.count(8), Math.min(15, acts + 1));
            x.heat(1, 7);
            CHECK.due("act " + act + " undone", x.undo(), Math.min(14, acts));
            CHECK.due("heat ahead of act " + act, x.pot(0, 0) * 1000 + x.pot(1, 0), 300500 + 1001 * act);
            CHECK.due("fold ahead of act " + act, x.person(4, 5), 0);
            CHECK.due("hand ahead of act " + act, x.person(4, 4), 0);
            CHECK.due("doors ahead of act " + act, x.count(5), 0);
            CHECK.due("now ahead of act " + act, x.count(4), 0);
            CHECK.due("who holds pot 0 ahead of act " + act, x.pot(0, 3), act == 0 || act > 1 && act < 5 ? -1 : 0);
            if (act == 1) {
                x.down(0);
            }
        }
    }

    private static int act(HotThrough x, int which) {
        switch (which) {
            case 0: return x.take(0, 0);
            case 1: return x.down(0);
            case 2: return x.change(4);
            case 3: return x.fold(4, 8);
            case 4: return x.door(1, 1);
            case 5: return x.give(0, 1);
            case 6: return x.walk(0, 0);
            case 7: return x.pass(3);
            default: return Check.dinner(x, "s2;c4;o1;d0");
        }
    }

    /** Hands of all five cool, and are kept. */
    private static void fiveCooks() {
        HotThrough x = Check.told("b;p9-0@a;p9-0@a;p9-0@a;p9-0@a;p9-0@a;h99@a;h99@a;h99@a;h99@a;h99@a");
        Check.rule(x, "20+i");
        for (int p = 0; p < 5; p++) {
            x.take(p, p);
            x.change(p);
        }
        x.pass(2);
        x.keep(0);
        for (int p = 0; p < 5; p++) {
            CHECK.due("warm hand 1 of " + p, x.person(p, 3), 40 + 2 * p);
            x.down(p);
        }
        x.pass(1);
        for (int p = 0; p < 5; p++) {
            CHECK.due("cooler hand 1 of " + p, x.person(p, 3), 40 + 2 * p - (40 + 2 * p) / 4);
        }
        x.undo();
        for (int p = 0; p < 5; p++) {
            CHECK.due("warm again, hand 1 of " + p, x.person(p, 3), 40 + 2 * p);
        }
        x.pass(9);
        x.again(0);
        for (int p = 0; p < 5; p++) {
            CHECK.due("as kept, hand 1 of " + p, x.person(p, 3), 40 + 2 * p);
            CHECK.due("as kept, pot of " + p, x.person(p, 6), p);
        }
        x.pass(2);
        x.change(4);
        x.pass(9);
        CHECK.due("all five were burnt", x.count(7), 5);
    }

    /** Of a dinner, each burning counts once, whatever comes behind it. */
    private static void dinnerBurnings() {
        String[] behind = {"t11", "t11;d1", "c1", "t11;g12", "o2", "w10", "s0", "s1", "d0", "c9"};
        for (String acts : behind) {
            HotThrough x = room("31");
            Check.dinner(x, "t00;s1;" + acts);
            CHECK.due("burnings behind which comes " + acts, x.row(1), 1);
        }
        HotThrough x = room("31");
        x.take(0, 0);
        x.pass(1);
        Check.dinner(x, "c0");
        CHECK.row("none in this one", x, 0, 0);
        x.pass(1);
        CHECK.row("none in this second", x, 0, 0);
    }

    private static void undoingLimit() {
        HotThrough x = room("0");
        for (int k = 1; k <= 40; k++) {
            x.pass(k);
            CHECK.due("kept behind " + k, x.count(8), Math.min(k, 15));
        }
        int now = x.count(4);
        CHECK.due("now", now, 820);
        CHECK.due("refused ones forget nothing", x.take(9, 9) + x.down(0) + x.pass(-1), -1 - 2 - 1);
        CHECK.due("still fifteen", x.count(8), 15);
        for (int k = 40; k > 25; k--) {
            CHECK.due("left behind " + k, x.undo(), k - 26);
            now -= k;
            CHECK.due("now, " + k + " undone", x.count(4), now);
        }
        CHECK.due("no more", x.undo(), -1);
        CHECK.due("now, at last", x.count(4), 325);
        x.pass(1);
        x.undo();
        CHECK.due("again", x.count(4), 325);
    }
}
