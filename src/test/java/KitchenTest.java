/** Promises 1 to 11: texts, the kitchen, the rule, and what can be asked of them. */
public final class KitchenTest {
    private static final Check CHECK = new Check("KitchenTest");
    private static final String SMALL = "b;f;b;t;wab2;wbc3;wcd2;wad9!;p200-5@a;h60@a;h90@c";

    public static void main(String[] args) {
        newObject();
        signs();
        ends();
        kitchens();
        kitchenFaults();
        kitchenRooms();
        kitchenLimit();
        rules();
        ruleFaults();
        ruleValues();
        facts();
        heats();
        sheets();
        CHECK.finish();
    }

    private static void newObject() {
        HotThrough x = new HotThrough();
        for (int what = 0; what <= 11; what++) {
            CHECK.due("new count(" + what + ")", x.count(what), 0);
        }
        CHECK.missing("new place", () -> x.place(0, 0));
        CHECK.missing("new way", () -> x.way(0, 0));
        CHECK.missing("new pot", () -> x.pot(0, 0));
        CHECK.missing("new person", () -> x.person(0, 0));
        CHECK.missing("new row", () -> x.row(0));
        CHECK.due("new undo", x.undo(), -1);
        CHECK.due("NONE", HotThrough.NONE, -1);
    }

    private static void signs() {
        HotThrough x = new HotThrough();
        CHECK.due("sign f;b;", x.sign(0x663b623b), 4);
        CHECK.due("sign t...", x.sign(0x74ffffff), 8);
        CHECK.due("count(11)", x.count(11), 8);
        CHECK.due("end(5)", x.end(5), true);
        CHECK.due("kitchen", x.kitchen(), 3);
        CHECK.due("the highest byte came first", x.place(0, 0), 0);
        CHECK.due("the third line", x.place(2, 0), 2);
        for (int i = 1; i <= 20; i++) {
            CHECK.due("sign " + i, x.sign(-1), 4 * i);
        }
        CHECK.due("a 21st sign", x.sign(0), -1);
        CHECK.due("still 80", x.count(11), 80);
        CHECK.due("end(77)", x.end(77), true);
        CHECK.due("would be 81", x.sign(0), -1);
        CHECK.due("end(76)", x.end(76), true);
        CHECK.due("80 again", x.sign(0), 80);
    }

    private static void ends() {
        HotThrough x = new HotThrough();
        CHECK.due("end(0) of nothing", x.end(0), true);
        CHECK.due("end(1) of nothing", x.end(1), false);
        Check.text(x, "f;f");
        CHECK.due("end(-1)", x.end(-1), false);
        CHECK.due("end(4)", x.end(4), false);
        CHECK.due("still 3", x.count(11), 3);
        CHECK.due("end(3)", x.end(3), true);
        CHECK.due("end(1)", x.end(1), true);
        CHECK.due("one is left", x.count(11), 1);
        CHECK.due("kitchen", x.kitchen(), 1);
        CHECK.due("the text is empty", x.count(11), 0);
    }

    private static void kitchens() {
        HotThrough x = new HotThrough();
        CHECK.due("an empty kitchen", x.kitchen(), 0);
        CHECK.due("eleven lines", Check.kitchen(x, SMALL), 11);
        CHECK.due("places", x.count(0), 4);
        CHECK.due("ways", x.count(1), 4);
        CHECK.due("pots", x.count(2), 1);
        CHECK.due("people", x.count(3), 2);
        CHECK.due("more comes behind", Check.kitchen(x, "t;wea7;p7-0@e;h1@b"), 4);
        CHECK.due("place 4", x.place(4, 0), 2);
        CHECK.due("way 4 from", x.way(4, 0), 4);
        CHECK.due("way 4 to", x.way(4, 1), 0);
        CHECK.due("way 4 steps", x.way(4, 2), 7);
        CHECK.due("pot 1 heat", x.pot(1, 0), 7);
        CHECK.due("person 2 place", x.person(2, 1), 1);
        CHECK.due("three digits of heat", Check.kitchen(x, "p999-9@a;p000-0@a"), 2);
        CHECK.due("pot 2", x.pot(2, 0), 999);
        CHECK.due("pot 3", x.pot(3, 0), 0);
        CHECK.due("bears 07", Check.kitchen(x, "h07@a"), 1);
        CHECK.due("person 3", x.person(3, 0), 7);
        Check.rule(x, "0");
        x.take(0, 0);
        CHECK.due("one can be undone", x.count(8), 1);
        CHECK.due("a failed kitchen", Check.kitchen(x, "f;q"), -3);
        CHECK.due("forgets nothing", x.count(8), 1);
        CHECK.due("an empty one", x.kitchen(), 0);
        CHECK.due("forgets nothing either", x.count(8), 1);
        CHECK.due("a kitchen", Check.kitchen(x, "f"), 1);
        CHECK.due("forgets what can be undone", x.count(8), 0);
        CHECK.due("and leaves what is", x.person(0, 6), 0);
        leavingsOfFaults();
    }

    /** Lines of a text that can't come leave nothing for those that come later. */
    private static void leavingsOfFaults() {
        HotThrough x = Check.told("b;b");
        CHECK.due("doors, and a fault", Check.kitchen(x, "wab9!;wab9!;p99-9@a;h99@b;x"), -27);
        CHECK.due("none of it came", x.count(1) + x.count(2) + x.count(3), 0);
        CHECK.due("others", Check.kitchen(x, "wba1;wab2;p1-0@b;h2@a"), 4);
        CHECK.due("way 0", x.way(0, 0) * 100 + x.way(0, 1) * 10 + x.way(0, 2), 101);
        CHECK.due("no doors", x.way(0, 3) + x.way(1, 3), 0);
        CHECK.due("no door to open", x.door(0, 1), -1);
        CHECK.due("pot 0", x.pot(0, 0) * 100 + x.pot(0, 1) * 10 + x.pot(0, 2), 101);
        CHECK.due("person 0", x.person(0, 0) * 10 + x.person(0, 1), 20);
    }

    private static void fault(String text, int want) {
        HotThrough x = new HotThrough();
        CHECK.due("kitchen " + text, Check.kitchen(x, text), want);
        CHECK.due("nothing comes of " + text, x.count(0) + x.count(1) + x.count(2) + x.count(3), 0);
        CHECK.due("no text is left of " + text, x.count(11), 0);
    }

    private static void kitchenFaults() {
        fault("x", -1);
        fault(";", -1);
        fault("F", -1);
        fault("f;", -3);
        fault("ff", -2);
        fault("f;;f", -3);
        fault("f f", -2);
        fault("wab1", -2);
        fault("f;w", -4);
        fault("f;wa", -5);
        fault("f;waa1", -5);
        fault("f;wab1", -5);
        fault("f;f;wab", -8);
        fault("f;f;wab0", -8);
        fault("f;f;wabx", -8);
        fault("f;f;wab12", -9);
        fault("f;f;wab1!!", -10);
        fault("f;f;wab1;", -10);
        fault("f;wab1;f", -5);
        fault("f;f;wAb1", -6);
        fault("p", -2);
        fault("p-", -2);
        fault("p5", -3);
        fault("b;p1234-5@a", -7);
        fault("b;p12:", -6);
        fault("b;p5-", -6);
        fault("b;p5-x@a", -6);
        fault("b;p5-12@a", -7);
        fault("b;p5-1@", -8);
        fault("b;p5-1@b", -8);
        fault("f;p5-1@a", -8);
        fault("f;p5-1@ax", -8);
        fault("b;p5-1@ax", -9);
        fault("h", -2);
        fault("h@", -2);
        fault("h0@a", -2);
        fault("f;h0@a", -4);
        fault("f;h00@a", -5);
        fault("f;h00", -5);
        fault("f;h0", -4);
        fault("f;h0x", -4);
        fault("f;h000@a", -5);
        fault("f;h100@a", -6);
        fault("f;h5", -5);
        fault("f;h5@", -6);
        fault("f;h5@b", -6);
        fault("f;h5@a;", -8);
        fault("f;h5@a\0", -7);
        fault("f;h5@k", -6);
    }

    private static void kitchenRooms() {
        HotThrough x = new HotThrough();
        CHECK.due("eleven places", Check.kitchen(x, "f;b;t;f;b;t;f;b;t;f;f"), -21);
        CHECK.due("none came", x.count(0), 0);
        CHECK.due("ten places", Check.kitchen(x, "f;b;t;f;b;t;f;b;t;f"), 10);
        CHECK.due("an eleventh", Check.kitchen(x, "b"), -1);
        CHECK.due("j is the last one", Check.kitchen(x, "waj1;wja2!"), 2);
        CHECK.due("there is no k", Check.kitchen(x, "wak1"), -3);
        CHECK.due("twelve more ways", Check.kitchen(x, "wab1;wab1;wab1;wab1;wab1;wab1;wab1;wab1;wab1;wab1;wab1;wab1"), 12);
        CHECK.due("a fifteenth way", Check.kitchen(x, "wab1"), -1);
        CHECK.due("even a wrong one", Check.kitchen(x, "w"), -1);
        CHECK.due("six pots", Check.kitchen(x, "p1-1@b;p1-1@b;p1-1@b;p1-1@b;p1-1@b;p1-1@b"), -36);
        CHECK.due("no pot came", x.count(2), 0);
        CHECK.due("five pots", Check.kitchen(x, "p1-1@b;p1-1@b;p1-1@b;p1-1@b;p1-1@b"), 5);
        CHECK.due("a sixth", Check.kitchen(x, "p1-1@b"), -1);
        CHECK.due("five people", Check.kitchen(x, "h1@a;h1@a;h1@a;h1@a;h1@a"), 5);
        CHECK.due("a sixth one", Check.kitchen(x, "h0"), -1);
        CHECK.due("all counts", x.count(0) * 1000 + x.count(1) * 10 + x.count(2) + x.count(3), 10150);
    }

    private static void kitchenLimit() {
        String ways = "wab1!;wab1!;wab1!;wab1!;wab1!;wab1!;wab1!;wab1!;wab1!;wab1!;wab1!;";
        HotThrough x = Check.told("f;f");
        CHECK.due("76 signs and one more", Check.kitchen(x, ways + "wab1!;wab1" + "!"), -77);
        CHECK.due("nothing of it came", x.count(1), 0);
        CHECK.due("76 signs that could go on", Check.kitchen(x, ways + "wab1;f;f;wa" + "b1"), -77);
        CHECK.due("a fault in the 76", Check.kitchen(x, ways + "wab1!;wab0" + ";f"), -76);
        CHECK.due("a fault behind them", Check.kitchen(x, ways + "wab1!;wab1" + "xx"), -77);
        CHECK.due("0 cut off", Check.kitchen(x, ways + "f;f;f;f;h0" + "5@a"), -77);
        CHECK.due("0 not cut off", Check.kitchen(x, ways + "f;f;f;f;h0"), -76);
        CHECK.due("00 ahead of the cut", Check.kitchen(x, ways + "b;wab1;h00" + "@a"), -76);
        CHECK.due("76 signs", Check.kitchen(x, ways + "wab1!;wab1"), 13);
        CHECK.due("13 ways", x.count(1), 13);
    }

    private static void rules() {
        HotThrough x = Check.told("b;p999-1@a;h60@a");
        x.take(0, 0);
        CHECK.due("no rule: h/(10*f+1)", x.person(0, 8), 999);
        x.fold(0, 3);
        CHECK.due("no rule, fold 3", x.person(0, 8), 32);
        CHECK.due("a rule", Check.rule(x, "7"), 0);
        CHECK.due("seven", x.person(0, 8), 7);
        CHECK.due("a wrong rule", Check.rule(x, "7+"), -3);
        CHECK.due("still seven", x.person(0, 8), 7);
        CHECK.due("no text is left", x.count(11), 0);
        CHECK.due("an empty rule", x.rule(), 0);
        CHECK.due("none again", x.person(0, 8), 32);
        CHECK.due("undo knows no rule", x.count(8), 2);
    }

    private static void ruleFaults() {
        HotThrough x = new HotThrough();
        String[] texts = {"x", "+", "h+", "h+*", "1234", "(h", "(h))", "()", "h h", "hf", "1<2<3", "1<2=3", "(1<2)=3",
            "((((1))))", "(((((1)))))", "-", "--", "-)", "2-", "2--3", "2*-3", "2*/3", "<1", "1<", "h;", "(1", "(1<2<3)",
            "12 ", "H", "1(2)", "(1)(2)", "((((1)", "1>>2", "999", "\0"};
        int[] faults = {-1, -1, -3, -3, -4, -3, -4, -2, -2, -2, -4, -4, 0,
            0, -5, -2, -3, -2, -3, 0, 0, -3, -1, -3, -2, -3, -5,
            -3, -1, -2, -4, -7, -3, 0, -1};
        for (int i = 0; i < texts.length; i++) {
            CHECK.due("rule " + texts[i], Check.rule(x, texts[i]), faults[i]);
        }
        String forty = "1+2+3+4+5+6+7+8+9+1+2+3+4+5+6+7+8+9+1+23";
        CHECK.due("40 signs", Check.rule(x, forty), 0);
        CHECK.due("41 signs", Check.rule(x, forty + "4"), -41);
        CHECK.due("a fault in the 40", Check.rule(x, forty.substring(0, 38) + "++" + "1"), -39);
        CHECK.due("40 that want more", Check.rule(x, forty.substring(0, 39) + "+" + "1"), -41);
        CHECK.due("40 that end too early", Check.rule(x, forty.substring(0, 39) + "+"), -41);
        CHECK.due("forty minuses", Check.rule(x, "-".repeat(40)), -41);
        CHECK.due("39 minuses", Check.rule(x, "-".repeat(39) + "h"), 0);
    }

    private static void value(HotThrough x, String rule, int want) {
        CHECK.due("rule " + rule, Check.rule(x, rule), 0);
        CHECK.due("what comes through by " + rule, x.person(1, 8), want);
    }

    private static void ruleValues() {
        HotThrough x = Check.told("b;p5-1@a;p120-2@a;h60@a;h70@a");
        x.take(1, 1);
        x.change(1);
        x.fold(1, 4);
        Check.rule(x, "3");
        x.pass(5);
        value(x, "h", 110);
        value(x, "f", 4);
        value(x, "n", 15);
        value(x, "b", 70);
        value(x, "s", 5);
        value(x, "i", 1);
        value(x, "p", 1);
        value(x, "r", 1);
        value(x, "2+3*4", 14);
        value(x, "(2+3)*4", 20);
        value(x, "20-3-4", 13);
        value(x, "20/3/2", 3);
        value(x, "2*9/4", 4);
        value(x, "20/0", 0);
        value(x, "7+20/(s-5)", 7);
        value(x, "-7/2+10", 7);
        value(x, "10-7/-2", 13);
        value(x, "--5", 5);
        value(x, "---5+9", 4);
        value(x, "-2*-3", 6);
        value(x, "10--3", 13);
        value(x, "3<4", 1);
        value(x, "4<4", 0);
        value(x, "5>4", 1);
        value(x, "4>5", 0);
        value(x, "2+2=4", 1);
        value(x, "2+2=5", 0);
        value(x, "(1<2)+(2<1)+(3>1)", 2);
        value(x, "9*(n<b)", 9);
        value(x, "0-5", 0);
        value(x, "-5", 0);
        value(x, "999+1", 999);
        value(x, "999*999", 999);
        value(x, "999*999*999*999*999", Math.max(0, Math.min(999, 999 * 999 * 999 * 999 * 999)));
        value(x, "999*999*999*3", 0);
        value(x, "999*999*999*5", 999);
        value(x, "999*999*999*5/999/999/6", 115);
        value(x, "(1+(1+(1+(1+1))))*2", 10);
        value(x, "007", 7);
        CHECK.due("0 without a pot", x.person(0, 8), 0);
    }

    private static void facts() {
        HotThrough x = Check.told(SMALL);
        CHECK.due("board", x.place(0, 0), 1);
        CHECK.due("floor", x.place(1, 0), 0);
        CHECK.due("table", x.place(3, 0), 2);
        CHECK.due("pots on a", x.place(0, 1), 1);
        CHECK.due("pots on b", x.place(1, 1), 0);
        CHECK.due("people at a", x.place(0, 2), 1);
        CHECK.due("people at c", x.place(2, 2), 2);
        CHECK.due("ways at a", x.place(0, 3), 9);
        CHECK.due("ways at c", x.place(2, 3), 6);
        CHECK.missing("place(4, 0)", () -> x.place(4, 0));
        CHECK.missing("place(-1, 0)", () -> x.place(-1, 0));
        CHECK.missing("place(0, 4)", () -> x.place(0, 4));
        CHECK.missing("place(0, -1)", () -> x.place(0, -1));
        CHECK.due("way from", x.way(3, 0), 0);
        CHECK.due("way to", x.way(3, 1), 3);
        CHECK.due("way steps", x.way(3, 2), 9);
        CHECK.due("way shut", x.way(3, 3), 1);
        CHECK.due("way without a door", x.way(2, 3), 0);
        x.door(3, 1);
        CHECK.due("way open", x.way(3, 3), 2);
        CHECK.missing("way(4, 0)", () -> x.way(4, 0));
        CHECK.missing("way(-1, 0)", () -> x.way(-1, 0));
        CHECK.missing("way(0, 4)", () -> x.way(0, 4));
        CHECK.missing("way(0, -1)", () -> x.way(0, -1));
        potFacts(x);
        personFacts(x);
    }

    private static void potFacts(HotThrough x) {
        CHECK.due("heat", x.pot(0, 0), 200);
        CHECK.due("cools", x.pot(0, 1), 5);
        CHECK.due("on a", x.pot(0, 2), 0);
        CHECK.due("held by nobody", x.pot(0, 3), -1);
        CHECK.due("not dropped", x.pot(0, 4), 0);
        x.take(0, 0);
        CHECK.due("on no place", x.pot(0, 2), -1);
        CHECK.due("held", x.pot(0, 3), 0);
        CHECK.due("no pots on a", x.place(0, 1), 0);
        CHECK.missing("pot(1, 0)", () -> x.pot(1, 0));
        CHECK.missing("pot(-1, 0)", () -> x.pot(-1, 0));
        CHECK.missing("pot(0, 5)", () -> x.pot(0, 5));
        CHECK.missing("pot(0, -1)", () -> x.pot(0, -1));
    }

    private static void personFacts(HotThrough x) {
        CHECK.due("bears", x.person(1, 0), 90);
        CHECK.due("at c", x.person(1, 1), 2);
        CHECK.due("holds none", x.person(1, 6), -1);
        CHECK.due("the other holds it", x.person(0, 6), 0);
        Check.rule(x, "40");
        x.pass(1);
        x.change(0);
        CHECK.due("warm hand 0", x.person(0, 2), 40);
        CHECK.due("warm hand 1", x.person(0, 3), 0);
        CHECK.due("uses hand 1", x.person(0, 4), 1);
        CHECK.due("fold", x.person(0, 5), 0);
        CHECK.due("not burnt", x.person(0, 7), 0);
        CHECK.due("comes through", x.person(0, 8), 40);
        x.pass(2);
        CHECK.due("warm hand 0 has cooled", x.person(0, 2), 23);
        CHECK.due("burnt", x.person(0, 7), 1);
        CHECK.due("dropped", x.pot(0, 4), 1);
        CHECK.due("holds none now", x.person(0, 6), -1);
        CHECK.due("nothing comes through", x.person(0, 8), 0);
        CHECK.due("held by nobody", x.pot(0, 3), -1);
        CHECK.due("on no place", x.pot(0, 2), -1);
        CHECK.due("cold", x.pot(0, 0), 0);
        CHECK.missing("person(2, 0)", () -> x.person(2, 0));
        CHECK.missing("person(-1, 0)", () -> x.person(-1, 0));
        CHECK.missing("person(0, 9)", () -> x.person(0, 9));
        CHECK.missing("person(0, -1)", () -> x.person(0, -1));
    }

    private static void heats() {
        HotThrough x = Check.told("b;p200-5@a;p30-1@a;h9@a");
        CHECK.due("heat(0, 999)", x.heat(0, 999), 200);
        CHECK.due("heat(0, 0)", x.heat(0, 0), 999);
        CHECK.due("heat(0, 1000)", x.heat(0, 1000), -1);
        CHECK.due("heat(0, -1)", x.heat(0, -1), -1);
        CHECK.due("heat(2, 5)", x.heat(2, 5), -1);
        CHECK.due("heat(-1, 5)", x.heat(-1, 5), -1);
        CHECK.due("unchanged", x.pot(0, 0), 0);
        x.take(0, 1);
        CHECK.due("heat of one that is held", x.heat(1, 500), 30);
        CHECK.due("not undoable", x.count(8), 1);
        x.pass(1);
        CHECK.due("dropped", x.pot(1, 4), 1);
        CHECK.due("heat of one that is dropped", x.heat(1, 7), -1);
        x.undo();
        CHECK.due("as ahead of the second", x.pot(1, 0), 500);
        x.undo();
        CHECK.due("as ahead of the taking", x.pot(1, 0), 30);
    }

    private static void sheets() {
        HotThrough x = Check.told("b;p1-1@a;p2-1@a;p3-1@a;h9@a");
        CHECK.due("ints", x.sheet(2, 3, 10, 20), 90);
        CHECK.due("pot 2", x.pot(2, 0), 50);
        CHECK.due("two entries", x.sheet(2, 2, 10, 20), 40);
        CHECK.due("one behind them", x.pot(2, 0), 0);
        CHECK.due("bytes", x.sheet(0, 3, 100, 100), 100 + 44);
        CHECK.due("200 is a byte below 0", x.pot(1, 0), 0);
        CHECK.due("300 is the byte 44", x.sheet(0, 1, 300, 0), 44);
        CHECK.due("shorts", x.sheet(1, 3, 65536 + 700, -65536), 700 * 3);
        CHECK.due("a short below 0", x.sheet(1, 1, 40000, 0), 0);
        CHECK.due("ints are cut", x.sheet(2, 3, 1 << 30, 1 << 30), 999);
        CHECK.due("five entries", x.sheet(2, 5, 7, 0), 21);
        CHECK.due("six entries", x.sheet(2, 6, 1, 0), -1);
        CHECK.due("six entries of a missing one", x.sheet(3, 6, 1, 0), -1);
        CHECK.due("kind 4", x.sheet(4, -1, 1, 0), -1);
        CHECK.due("kind -1", x.sheet(-1, 0, 1, 0), -1);
        CHECK.due("n below 0", x.sheet(0, -1, 1, 0), -2);
        CHECK.due("n below 0, shorts", x.sheet(1, -1, 1, 0), -2);
        CHECK.due("n below 0, ints", x.sheet(2, Integer.MIN_VALUE, 1, 0), -2);
        CHECK.due("nothing changed", x.pot(1, 0), 7);
        x.take(0, 1);
        x.heat(1, 500);
        x.pass(1);
        CHECK.due("dropped", x.pot(1, 4), 1);
        CHECK.due("one entry for each", x.sheet(2, 3, 1, 1), 4);
        CHECK.due("the dropped one", x.pot(1, 0), 0);
        CHECK.due("the one behind it", x.pot(2, 0), 3);
        CHECK.due("missing", x.sheet(3, -5, 9, 9), -3);
        CHECK.due("all are 0", x.pot(0, 0) + x.pot(2, 0), 0);
        CHECK.due("no entries", x.sheet(1, 0, 9, 9), 0);
    }
}
