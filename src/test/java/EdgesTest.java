/**
 * Sentence by sentence, each boundary case that the document names in 'Terms' and in the promises 1 to 11:
 * too small, too large, empty, full, a wrap-around, a refused call.
 */
public final class EdgesTest {
    private static final Check CHECK = new Check("EdgesTest");
    private static final int LEAST = Integer.MIN_VALUE;
    private static final int GREATEST = Integer.MAX_VALUE;
    /** Numbers that are neither a place, a way, a pot, one of people nor what can be asked of them. */
    private static final int[] NO_NUMBERS = {-1, -2, -100, LEAST, LEAST + 1, 14, 31, 32, 33, 64, 256, 65536, GREATEST};

    public static void main(String[] args) {
        placesAreTenAtMost();
        potsStandOnBoardsAndTables();
        waysAreFourteenAtMost();
        doorsAreShutAtFirst();
        potsAreFiveAtMost();
        peopleAreFiveAtMost();
        peopleAtFirst();
        letters();
        expressionsBind();
        rulesReckonAsInts();
        rulesAreNested();
        heldPotsAreTold();
        burntBeyondBearing();
        handsCoolByAQuarter();
        burntHandsStayTooWarm();
        potsCoolToNought();
        secondsToComeAreThreeHundred();
        restsLookOnTillItIsThere();
        rowsAreLeft();
        newObject();
        signs();
        ends();
        kitchens();
        kitchenFaults();
        kitchenLimit();
        kitchenIsWholeOrNothing();
        rules();
        whatIsMissing();
        heats();
        sheets();
        CHECK.finish();
    }

    private static int fault(int p) {
        return -1 - p;
    }

    // ---- Terms 1

    /** "PLACES 0 .. (at most 10; written a .. j)". */
    private static void placesAreTenAtMost() {
        String ten = "f;b;t;f;b;t;f;b;t;b";
        HotThrough x = Check.told(ten);
        CHECK.due("ten places", x.count(0), 10);
        CHECK.due("the last one's kind", x.place(9, 0), 1);
        for (String line : new String[] {"f", "b", "t"}) {
            CHECK.due("no eleventh " + line, Check.kitchen(x, line), fault(0));
        }
        CHECK.due("still ten", x.count(0), 10);
        CHECK.due("a and j are letters of all lines", Check.kitchen(x, "waj1;wja1;p1-1@j;h1@j;h1@a"), 5);
        CHECK.due("a way between them", x.way(0, 0) * 10 + x.way(0, 1), 9);
        CHECK.due("and back", x.way(1, 0) * 10 + x.way(1, 1), 90);
        CHECK.due("a pot on j", x.pot(0, 2), 9);
        CHECK.due("one at j", x.person(0, 1), 9);
        CHECK.due("no k of a way", Check.kitchen(x, "wka1"), fault(1));
        CHECK.due("no k behind it", Check.kitchen(x, "wak1"), fault(2));
        CHECK.due("no k of a pot", Check.kitchen(x, "p1-1@k"), fault(5));
        CHECK.due("no k of one of people", Check.kitchen(x, "h1@k"), fault(3));
        CHECK.due("nor what is ahead of a", Check.kitchen(x, "h1@`"), fault(3));
        CHECK.due("nor A", Check.kitchen(x, "h1@A"), fault(3));
        HotThrough y = Check.told("f;f");
        CHECK.due("of two places, no c", Check.kitchen(y, "h1@c"), fault(3));
        CHECK.due("but b", Check.kitchen(y, "h1@b"), 1);
    }

    /** "each a floor, a board, or a table (on the last two a POT can be set down)". */
    private static void potsStandOnBoardsAndTables() {
        HotThrough x = Check.told("f;b;t;wab1;wbc1;wac1;p5-0@b;h9@b");
        Check.rule(x, "0");
        CHECK.due("floor", x.place(0, 0), 0);
        CHECK.due("board", x.place(1, 0), 1);
        CHECK.due("table", x.place(2, 0), 2);
        x.take(0, 0);
        CHECK.due("on a board", x.down(0), 0);
        x.take(0, 0);
        x.walk(0, 0);
        CHECK.leaves("not on a floor", x, () -> x.down(0), -3);
        x.walk(0, 2);
        CHECK.due("on a table", x.down(0), 0);
        CHECK.due("a pot told on a floor", Check.kitchen(x, "p5-0@a"), fault(5));
        CHECK.due("on a board", Check.kitchen(x, "p5-0@b"), 1);
        CHECK.due("on a table", Check.kitchen(x, "p5-0@c"), 1);
    }

    /** "WAYS 0 .. (at most 14), each between two unlike PLACES, both ways: STEPS 1 .. 9". */
    private static void waysAreFourteenAtMost() {
        HotThrough x = Check.told("f;f;h9@a", "wab1;wab2;wab3;wab4;wab5;wab6;wab7;wab8;wab9;wba1;wba2;wba3;wba4");
        CHECK.due("thirteen ways", x.count(1), 13);
        CHECK.due("two more are one too many", Check.kitchen(x, "wab5;wab6"), fault(5));
        CHECK.due("still thirteen", x.count(1), 13);
        CHECK.due("one more", Check.kitchen(x, "wab5!"), 1);
        CHECK.due("fourteen", x.count(1), 14);
        CHECK.due("no fifteenth", Check.kitchen(x, "wab1"), fault(0));
        CHECK.due("the last one's door", x.door(13, 1), 1);
        CHECK.due("it is open", x.way(13, 3), 2);
        CHECK.due("bits of it", x.count(5), 1 << 13);
        CHECK.due("by the last one", x.walk(0, 13), 5);
        CHECK.due("by it, back", x.walk(0, 13), 5);
        CHECK.due("to the second place told", x.walk(0, 0), 1);
        CHECK.due("it is there", x.person(0, 1), 1);
        CHECK.due("and to the first one", x.walk(0, 0), 1);
        CHECK.due("it is there", x.person(0, 1), 0);
        CHECK.due("one step", x.way(0, 2), 1);
        CHECK.due("nine steps", x.way(8, 2), 9);
        HotThrough y = Check.told("f;f");
        CHECK.due("no steps", Check.kitchen(y, "wab0"), fault(3));
        CHECK.due("steps of two digits", Check.kitchen(y, "wab10"), fault(4));
        CHECK.due("from a to a", Check.kitchen(y, "waa1"), fault(2));
        CHECK.due("from b to b", Check.kitchen(y, "wbb1"), fault(2));
    }

    /** "perhaps with a door, that is shut at first (without one it is open always)". */
    private static void doorsAreShutAtFirst() {
        HotThrough x = Check.told("f;f;wab1!;wab2;h9@a");
        CHECK.due("shut", x.way(0, 3), 1);
        CHECK.due("no bits", x.count(5), 0);
        CHECK.due("no walk by it", x.walk(0, 0), -3);
        CHECK.due("no door", x.way(1, 3), 0);
        CHECK.due("a walk by that one", x.walk(0, 1), 2);
        CHECK.due("it has no door to be shut", x.door(1, 0), -1);
        x.door(0, 1);
        Check.kitchen(x, "wab1!");
        CHECK.due("a later door is shut, too", x.way(2, 3), 1);
        CHECK.due("the first one is open still", x.way(0, 3), 2);
        CHECK.due("bits", x.count(5), 1);
    }

    /** "POTS 0 .. (at most 5): HEAT 0 .. 999, COOLS 0 .. 9". */
    private static void potsAreFiveAtMost() {
        HotThrough x = Check.told("b", "p0-0@a;p999-9@a;p00-1@a;p099-8@a");
        CHECK.due("heat 0, cools 0", x.pot(0, 0) * 10 + x.pot(0, 1), 0);
        CHECK.due("heat 999, cools 9", x.pot(1, 0) * 10 + x.pot(1, 1), 9999);
        CHECK.due("heat 00", x.pot(2, 0) * 10 + x.pot(2, 1), 1);
        CHECK.due("heat 099", x.pot(3, 0) * 10 + x.pot(3, 1), 998);
        CHECK.due("two more are one too many", Check.kitchen(x, "p1-1@a;p1-1@a"), fault(7));
        CHECK.due("still four", x.count(2), 4);
        CHECK.due("a fifth", Check.kitchen(x, "p1-1@a"), 1);
        CHECK.due("no sixth", Check.kitchen(x, "p1-1@a"), fault(0));
        CHECK.due("five", x.count(2), 5);
        CHECK.due("all on the board", x.place(0, 1), 31);
        CHECK.due("heat of four digits", Check.kitchen(Check.told("b"), "p1000-0@a"), fault(4));
        CHECK.due("cools of two digits", Check.kitchen(Check.told("b"), "p100-10@a"), fault(6));
    }

    /** "PEOPLE 0 .. (at most 5): BEARS 1 .. 99, at a PLACE". */
    private static void peopleAreFiveAtMost() {
        HotThrough x = Check.told("f", "h1@a;h99@a;h01@a;h9@a");
        CHECK.due("bears 1", x.person(0, 0), 1);
        CHECK.due("bears 99", x.person(1, 0), 99);
        CHECK.due("bears 01", x.person(2, 0), 1);
        CHECK.due("two more are one too many", Check.kitchen(x, "h1@a;h1@a"), fault(5));
        CHECK.due("still four", x.count(3), 4);
        CHECK.due("a fifth", Check.kitchen(x, "h1@a"), 1);
        CHECK.due("no sixth", Check.kitchen(x, "h1@a"), fault(0));
        CHECK.due("five", x.count(3), 5);
        CHECK.due("all at a", x.place(0, 2), 31);
        CHECK.due("bears of three digits", Check.kitchen(Check.told("f"), "h100@a"), fault(3));
    }

    /** "WARM (at first 0); the HAND that is used (at first 0); FOLD .. (at first 0); .. BURNT (at first 0)". */
    private static void peopleAtFirst() {
        HotThrough x = Check.told("b;p9-0@a;p8-0@a;h9@a");
        Check.rule(x, "7");
        firstOf(x, 0, 9);
        x.take(0, 0);
        x.change(0);
        x.fold(0, 9);
        x.pass(2);
        CHECK.due("person 0 was burnt", x.person(0, 7), 1);
        CHECK.due("another one comes", Check.kitchen(x, "h8@a;p7-0@a"), 2);
        firstOf(x, 1, 8);
        CHECK.due("the first one is as it was", x.person(0, 4) * 10 + x.person(0, 5), 19);
        CHECK.due("and was burnt", x.person(0, 7), 1);
        CHECK.due("and as warm", x.person(0, 3), 11);
        CHECK.due("time stands", x.count(4), 2);
        CHECK.due("a pot that comes is not dropped", x.pot(2, 4) + x.count(6), 1);
        CHECK.due("nobody holds it", x.pot(2, 3), -1);
    }

    private static void firstOf(HotThrough x, int p, int bears) {
        int[] due = {bears, 0, 0, 0, 0, 0, -1, 0, 0};
        for (int what = 0; what < due.length; what++) {
            CHECK.due("at first, person(" + p + ", " + what + ")", x.person(p, what), due[what]);
        }
    }

    /** "w, two unlike letters of PLACES that are there (also of this text ahead of it)", and what each LINE wants. */
    private static void letters() {
        CHECK.due("ahead of it", Check.kitchen(new HotThrough(), "f;b;wab1;p1-1@b;h1@a"), 5);
        CHECK.due("not behind it", Check.kitchen(new HotThrough(), "f;wab1;f"), fault(4));
        CHECK.due("not behind it: a pot", Check.kitchen(new HotThrough(), "p1-1@a;b"), fault(5));
        CHECK.due("not behind it: one of people", Check.kitchen(new HotThrough(), "h1@a;b"), fault(3));
        HotThrough x = Check.told("f;f");
        CHECK.due("of an earlier text", Check.kitchen(x, "wab1;h1@b"), 2);
        CHECK.due("behind what there is", Check.kitchen(x, "b;p1-1@c;wca2"), 3);
        CHECK.due("the third place is the board", x.place(2, 0), 1);
        CHECK.due("the second way is that one", x.way(1, 0) * 100 + x.way(1, 1) * 10 + x.way(1, 2), 202);
    }

    private static HotThrough holder() {
        HotThrough x = Check.told("b;p5-0@a;p120-0@a;h60@a;h70@a");
        x.take(1, 1);
        return x;
    }

    private static void value(HotThrough x, String rule, int want) {
        CHECK.due("rule " + rule, Check.rule(x, rule), 0);
        CHECK.due("what comes through by " + rule, x.person(1, 8), want);
    }

    /** "< > = bind least .., then + - (from the left), then * / (from the left; by 0: 0; cut to 0), then -". */
    private static void expressionsBind() {
        HotThrough x = holder();
        value(x, "1<1", 0);
        value(x, "1<2", 1);
        value(x, "2<1", 0);
        value(x, "1>1", 0);
        value(x, "2>1", 1);
        value(x, "1>2", 0);
        value(x, "1=1", 1);
        value(x, "1=2", 0);
        value(x, "1+1<2+1", 1);
        value(x, "1+1<1*2", 0);
        value(x, "5-(2>1)", 4);
        value(x, "(1<2)<3", 1);
        value(x, "1<(2<3)", 0);
        value(x, "9-4-3", 2);
        value(x, "9-4+3", 8);
        value(x, "9-(4+3)", 2);
        value(x, "60/5/4", 3);
        value(x, "60/5*4", 48);
        value(x, "60/(5*4)", 3);
        value(x, "7/2*2", 6);
        value(x, "1+7/2", 4);
        value(x, "5/0", 0);
        value(x, "9-5/0", 9);
        value(x, "0/0", 0);
        value(x, "9+-5/0", 9);
        value(x, "5/0/0+3", 3);
        value(x, "0/5", 0);
        value(x, "9+7/2", 12);
        value(x, "9+-7/2", 6);
        value(x, "9+7/-2", 6);
        value(x, "9+-7/-2", 12);
        value(x, "9+-1/2", 9);
        value(x, "-(0-4)", 4);
        value(x, "-(-4)", 4);
        value(x, "---4+9", 5);
        value(x, "----4", 4);
        value(x, "9--4", 13);
        value(x, "9---4", 5);
        value(x, "3*-2+9", 3);
        value(x, "-3*-2", 6);
        value(x, "-2+5", 3);
        value(x, "--h", 120);
        CHECK.due("< behind <", Check.rule(x, "1<2<3"), fault(3));
        CHECK.due("= behind >", Check.rule(x, "1>2=3"), fault(3));
        CHECK.due("> behind = in ( )", Check.rule(x, "(1=2>3)"), fault(4));
    }

    /** "As ints, put to 0 .. 999". */
    private static void rulesReckonAsInts() {
        HotThrough x = holder();
        value(x, "0", 0);
        value(x, "0-1", 0);
        value(x, "-999*999", 0);
        value(x, "998+1", 999);
        value(x, "999+1", 999);
        value(x, "999+1-1", 999);
        value(x, "999+999-999-1", 998);
        // 999*999*999*3 is 2991008997, as an int below 0; *5 is 4985014995, as an int 690047699
        value(x, "999*999*999*3", 0);
        value(x, "999*999*999*5", 999);
        value(x, "999*999*999*5/999/999/6", 115);
        // 512*512*512*16 is 2 to the 31st: as an int the least one, which is its own negative
        value(x, "(512*512*512*16<0)+(512*512*512*16<1)", 2);
        value(x, "512*512*512*16/-1", 0);
        value(x, "-(512*512*512*16)", 0);
        value(x, "512*512*512*16-1", 999);
        value(x, "512*512*512*16-1+1", 0);
        value(x, "512*512*512*32", 0);
        value(x, "512*512*512*32+7", 7);
        value(x, "512*512*512*16/512/512/-512", 16);
    }

    /** "a NUMBER of 1 to 3 digits, an EXPRESSION in ( ) (at most 4 in one another)". */
    private static void rulesAreNested() {
        HotThrough x = holder();
        value(x, "0", 0);
        value(x, "00", 0);
        value(x, "000", 0);
        value(x, "009", 9);
        value(x, "999", 999);
        CHECK.due("four digits", Check.rule(x, "0000"), fault(3));
        CHECK.due("four digits behind a sign", Check.rule(x, "h+1000"), fault(5));
        value(x, "((((8))))", 8);
        value(x, "((((8))))-(((3)))", 5);
        value(x, "(1)+(2)+(3)+(4)+(5)+(6)", 21);
        value(x, "(1+(2+(3+(4))+(5)))", 15);
        CHECK.due("five in one another", Check.rule(x, "(((((8)))))"), fault(4));
        CHECK.due("five behind four", Check.rule(x, "((((8))))+(((((8)))))"), fault(14));
        CHECK.due("five behind minuses", Check.rule(x, "(-(-(-(-(8)))))"), fault(8));
        CHECK.due("nothing in ( )", Check.rule(x, "()"), fault(1));
        CHECK.due("one ) too many", Check.rule(x, "(8))"), fault(3));
        CHECK.due("one ) too few", Check.rule(x, "((8)"), fault(4));
    }

    /** "of one who holds a POT: h its HEAT, f FOLD, n .., b BEARS, s NOW, i the one's number, p the POT's, r the HAND". */
    private static void heldPotsAreTold() {
        HotThrough x = Check.told("b;p5-9@a;p120-3@a;h60@a;h70@a");
        x.take(1, 1);
        value(x, "h+f+n+b+s+i+p+r", 120 + 70 + 1 + 1);
        x.fold(1, 9);
        Check.rule(x, "3");
        x.pass(2);
        x.change(1);
        value(x, "h", 114);
        value(x, "f", 9);
        value(x, "n", 0);
        value(x, "b", 70);
        value(x, "s", 2);
        value(x, "i", 1);
        value(x, "p", 1);
        value(x, "r", 1);
        x.change(1);
        value(x, "n", 6);
        value(x, "r", 0);
        x.down(1);
        value(x, "9", 0);
        x.take(0, 0);
        CHECK.due("of the other one", x.person(0, 8), 9);
        Check.rule(x, "s*10");
        x.pass(2);
        CHECK.due("as the seconds begin: 20, 30", x.person(0, 2), 50);
        HotThrough y = Check.told("b;p0-0@a;h9@a");
        y.take(0, 0);
        CHECK.due("at first none: 0/1", y.person(0, 8), 0);
        y.heat(0, 999);
        CHECK.due("999/1", y.person(0, 8), 999);
        y.fold(0, 9);
        CHECK.due("999/91", y.person(0, 8), 10);
    }

    /** "if it is more than BEARS then, one is BURNT once more, and the POT DROPPED (HEAT 0; nobody holds it)". */
    private static void burntBeyondBearing() {
        HotThrough x = Check.told("b;p50-1@a;p60-2@a;h9@a;h1@a");
        Check.rule(x, "9");
        x.take(0, 0);
        CHECK.due("as warm as BEARS is not burnt", x.pass(1), 0);
        CHECK.due("it holds it", x.pot(0, 3), 0);
        Check.rule(x, "0");
        CHECK.due("nor in a second more", x.pass(1), 0);
        Check.rule(x, "1");
        CHECK.due("one more is burnt", x.pass(1), 1);
        CHECK.due("nobody holds it", x.pot(0, 3), -1);
        CHECK.due("it is on no place", x.pot(0, 2), -1);
        CHECK.due("heat 0", x.pot(0, 0), 0);
        CHECK.due("dropped", x.pot(0, 4), 1);
        CHECK.due("one holds none", x.person(0, 6), -1);
        CHECK.due("once", x.person(0, 7), 1);
        CHECK.due("no pots on a but the other", x.place(0, 1), 2);
        x.take(1, 1);
        CHECK.due("of 1, 1 is borne", x.pass(1), 0);
        CHECK.due("2 is not", x.pass(1), 1);
        CHECK.due("both dropped", x.count(6), 3);
        CHECK.due("all burnings", x.count(7), 2);
    }

    /** "all other HANDS .. are a quarter (cut) less WARM; of those who dropped one in (1), too". */
    private static void handsCoolByAQuarter() {
        int[] less = {0, 1, 2, 3, 3, 4, 5, 6, 6, 7, 8, 9, 9};
        for (int warm = 1; warm < less.length; warm++) {
            HotThrough x = Check.told("b;p9-0@a;p9-0@a;h99@a;h99@a");
            x.take(0, 0);
            x.take(1, 1);
            Check.rule(x, String.valueOf(warm));
            x.pass(1);
            x.change(0);
            x.down(1);
            Check.rule(x, "5");
            x.pass(1);
            CHECK.due("the one not used of one who holds a pot, of " + warm, x.person(0, 2), less[warm]);
            CHECK.due("the one that is used got warmer", x.person(0, 3), 5);
            CHECK.due("the one that is used of one who holds none, of " + warm, x.person(1, 2), less[warm]);
            x.change(1);
            x.pass(1);
            CHECK.due("the one not used of one who holds none", x.person(1, 2), less[less[warm]]);
        }
        HotThrough x = Check.told("b;p9-0@a;h20@a");
        Check.rule(x, "20");
        x.take(0, 0);
        x.pass(1);
        x.change(0);
        Check.rule(x, "21");
        CHECK.due("burnt", x.pass(1), 1);
        CHECK.due("the hand by which it was dropped: 21", x.person(0, 3), 16);
        CHECK.due("the other one: 20", x.person(0, 2), 15);
    }

    /** "as much WARMER as COMES THROUGH; if it is more than BEARS then": be it by 0, too. */
    private static void burntHandsStayTooWarm() {
        HotThrough x = Check.told("b;t;wab1;p50-0@a;p60-0@a;h30@a");
        Check.rule(x, "100");
        x.take(0, 0);
        x.pass(1);
        CHECK.due("warm", x.person(0, 2), 75);
        Check.rule(x, "0");
        x.take(0, 1);
        CHECK.due("burnt at once", x.lasts(0), 1);
        CHECK.due("with each fold", x.layers(0, 1, 1), -2);
        CHECK.due("with each heat", x.hottest(0, 1, 1), -2);
        CHECK.due("it gets nowhere", x.far(0, 1), 0);
        x.change(0);
        CHECK.due("not with the other hand", x.lasts(0), -2);
        x.change(0);
        CHECK.due("burnt by nothing", x.pass(1), 1);
        CHECK.due("twice", x.person(0, 7), 2);
        CHECK.due("less warm", x.person(0, 2), 57);
    }

    /** "each POT that is not DROPPED has COOLS less HEAT, 0 at least. NOW (at first 0) is 1 more". */
    private static void potsCoolToNought() {
        HotThrough x = Check.told("b;p9-9@a;p8-9@a;p10-9@a;p5-0@a;p30-7@a;h99@a");
        CHECK.due("now at first", x.count(4), 0);
        Check.rule(x, "0");
        x.take(0, 4);
        x.pass(1);
        CHECK.due("9 less 9", x.pot(0, 0), 0);
        CHECK.due("8 less 9", x.pot(1, 0), 0);
        CHECK.due("10 less 9", x.pot(2, 0), 1);
        CHECK.due("5 less 0", x.pot(3, 0), 5);
        CHECK.due("one that is held", x.pot(4, 0), 23);
        CHECK.due("now", x.count(4), 1);
        x.pass(1);
        CHECK.due("1 less 9", x.pot(2, 0), 0);
        CHECK.due("0 less 9", x.pot(0, 0), 0);
        CHECK.due("now", x.count(4), 2);
    }

    // ---- Terms 2

    /** "What is asked of SECONDS to come looks on for 300 at most". */
    private static void secondsToComeAreThreeHundred() {
        HotThrough x = Check.told("b;p9-0@a;h9@a");
        x.take(0, 0);
        Check.rule(x, "(s=299)*99");
        CHECK.due("lasts: in the 300th", x.lasts(0), 300);
        CHECK.row("lasts: in the 300th", x, 9);
        CHECK.due("swaps: in the 300th", x.swaps(0, 99), 300);
        CHECK.row("swaps: in the 300th", x, 3);
        CHECK.due("often: in the 300th", x.often(0), 1);
        CHECK.row("often: in the 300th", x, 300);
        Check.rule(x, "(s=300)*99");
        CHECK.due("lasts: behind the 300th", x.lasts(0), -2);
        CHECK.row("lasts: behind the 300th", x, 0);
        CHECK.due("swaps: behind the 300th", x.swaps(0, 99), -2);
        CHECK.row("swaps: behind the 300th", x, 3);
        CHECK.due("often: behind the 300th", x.often(0), 99);
        CHECK.row("often: behind the 300th", x, -1);
        x.pass(1);
        CHECK.due("a second later", x.lasts(0), 300);
    }

    /** "(but rests(), soonest(): till it is there)". */
    private static void restsLookOnTillItIsThere() {
        HotThrough x = Check.told("b;b;b;b;b;b;b;b;b;t;wab1;wbc1;wcd1;wde1;wef1;wfg1;wgh1;whi1;wij1", "p9-0@a;h30@a");
        Check.rule(x, "25");
        x.take(0, 0);
        CHECK.due("489 seconds", x.rests(0, 9, 60), 8);
        CHECK.row("489 seconds", x, 1, 2, 3, 4, 5, 6, 7, 8);
        Check.rule(x, "(s>488)*99+25");
        CHECK.due("burnt behind them", x.rests(0, 9, 60), 8);
        Check.rule(x, "(s>487)*99+25");
        CHECK.due("burnt in the last of them", x.rests(0, 9, 60), -2);
        Check.rule(x, "(s-s/61*61>0)*99+25");
        CHECK.due("the soonest is as late", x.soonest(0, 9), 489);
        CHECK.row("the soonest is as late", x, 60, 8);
    }

    /** "ROW: numbers told last by a call that says so (any other one leaves it)". */
    private static void rowsAreLeft() {
        HotThrough x = Check.told("b;f;t;wab1;wbc1;wac9!;p9-0@a;p9-0@a;h9@a;h9@a");
        CHECK.row("at first", x);
        Check.rule(x, "0");
        x.path(0, 2);
        Check.text(x, "f");
        CHECK.row("behind a text", x, 0, 1, 2);
        x.kitchen();
        CHECK.row("behind a kitchen", x, 0, 1, 2);
        Check.rule(x, "1");
        CHECK.row("behind a rule", x, 0, 1, 2);
        x.heat(0, 8);
        x.sheet(2, 2, 9, 0);
        CHECK.row("behind heats", x, 0, 1, 2);
        x.take(0, 0);
        x.give(0, 1);
        x.change(0);
        x.fold(0, 1);
        x.door(2, 1);
        x.door(2, 0);
        x.down(1);
        CHECK.row("behind acts that tell none", x, 0, 1, 2);
        x.undo();
        x.hottest(0, 0, 1);
        x.mark(0, 0);
        x.wipe();
        x.keep(0);
        x.again(0);
        x.count(10);
        x.row(0);
        CHECK.row("behind others that tell none", x, 0, 1, 2);
        x.fits(0, 3);
        CHECK.row("an empty one", x);
    }

    // ---- promises 1 to 11

    /** Promise 1: "No PLACES, nobody, nothing". */
    private static void newObject() {
        HotThrough x = new HotThrough();
        for (int what = 0; what <= 11; what++) {
            CHECK.due("new, count(" + what + ")", x.count(what), 0);
        }
        CHECK.leaves("nobody takes", x, () -> x.take(0, 0), -1);
        CHECK.leaves("nobody walks", x, () -> x.walk(0, 0), -1);
        CHECK.leaves("no path", x, () -> x.path(0, 0), -1);
        CHECK.leaves("nothing kept", x, () -> x.again(0) ? 1 : 0, 0);
        CHECK.leaves("nothing to undo", x, x::undo, -1);
        CHECK.leaves("no marks", x, x::wipe, 0);
        HotThrough other = Check.told("f;f;wab1;h9@a");
        other.mark(0, 0);
        CHECK.due("one object is not another", x.count(0) + x.count(9), 0);
    }

    /** Promise 2: "Four signs come behind THE TEXT ..: how many it has. Refused: there would be more than 80". */
    private static void signs() {
        HotThrough x = new HotThrough();
        for (int k = 4; k <= 80; k += 4) {
            CHECK.due("signs", x.sign(0x663b663b), k);
        }
        CHECK.leaves("84", x, () -> x.sign(0x663b663b), -1);
        for (int left = 77; left <= 80; left++) {
            x.end(0);
            for (int k = 0; k < 20; k++) {
                x.sign(0);
            }
            x.end(left);
            CHECK.leaves("four behind " + left, x, () -> x.sign(0), -1);
        }
        x.end(76);
        CHECK.due("four behind 76", x.sign(LEAST), 80);
        HotThrough y = new HotThrough();
        y.sign('f' << 24 | ';' << 16 | 'b' << 8 | ';');
        y.sign('t' << 24);
        y.end(5);
        CHECK.due("the highest byte first", y.kitchen(), 3);
        CHECK.due("f, b, t", y.place(0, 0) * 100 + y.place(1, 0) * 10 + y.place(2, 0), 12);
        y.sign('f' << 24 | 0x80ff01);
        y.end(2);
        CHECK.due("a byte of 128 is no ;", y.kitchen(), fault(1));
    }

    /** Promise 3: "THE TEXT has its first n signs alone: true; false if it has not so many, or n is below 0". */
    private static void ends() {
        HotThrough x = new HotThrough();
        CHECK.due("end(0) of none", x.end(0), true);
        CHECK.leaves("end(1) of none", x, () -> x.end(1) ? 1 : 0, 0);
        x.sign(0x663b663b);
        int[] wrong = {-1, LEAST, 5, 80, GREATEST};
        for (int n : wrong) {
            CHECK.leaves("end(" + n + ") of four", x, () -> x.end(n) ? 1 : 0, 0);
        }
        CHECK.due("all of them", x.end(4), true);
        CHECK.due("four", x.count(11), 4);
        CHECK.due("three of them", x.end(3), true);
        CHECK.due("three", x.count(11), 3);
        CHECK.due("the first ones", x.kitchen(), 2);
        x.sign(0x663b663b);
        CHECK.due("none of them", x.end(0), true);
        CHECK.due("none", x.count(11), 0);
        for (int k = 0; k < 20; k++) {
            x.sign(0);
        }
        CHECK.due("81 of 80", x.end(81), false);
        CHECK.due("80 of 80", x.end(80), true);
    }

    /** Promise 4: "(an empty one: nothing): how many LINES"; 'Terms' 1: what they tell. */
    private static void kitchens() {
        HotThrough x = new HotThrough();
        CHECK.leaves("an empty one", x, x::kitchen, 0);
        CHECK.due("one line", Check.kitchen(x, "b"), 1);
        CHECK.due("two lines", Check.kitchen(x, "b;b"), 2);
        x.keep(1);
        x.pass(1);
        CHECK.leaves("an empty one forgets nothing", x, x::kitchen, 0);
        CHECK.due("it can be undone", x.undo(), 0);
        CHECK.due("it is kept", x.again(1), true);
        Check.text(x, "b");
        x.end(0);
        CHECK.leaves("one that was cut to nothing", x, x::kitchen, 0);
    }

    private static void faulty(String there, String text, int p) {
        HotThrough x = new HotThrough();
        if (!there.isEmpty()) {
            Check.kitchen(x, there);
        }
        x.change(0);
        x.keep(0);
        x.path(0, 0);
        String before = Check.all(x);
        CHECK.due("of " + text, Check.kitchen(x, text), fault(p));
        CHECK.due("nothing comes, and no text is left, of " + text, Check.all(x).equals(before), true);
        CHECK.due("it is kept, in spite of " + text, x.again(0), true);
    }

    /** Promise 4: "the sign at p can't stand there (its end, if it ends too early; ..)". */
    private static void kitchenFaults() {
        String there = "b;f;h9@a";
        String[] texts = {"x", "\0", ";", " b", "b ", "b;", "b;;b", "bb", "b;x", "w", "wa", "wab", "wab!", "wab1!!", "wab11",
            "wab1;", "wac1", "wca1", "waa1", "wbb1", "w1b1", "wab0", "wab:", "wab/", "p", "p@", "px", "p9", "p9@", "p99", "p999",
            "p9999-1@a", "p9-", "p9-@a", "p9-1", "p9-11@a", "p9-1a", "p9-1@", "p9-1@b", "p9-1@c", "p9-1@aa", "p9-:@a", "h", "h@a",
            "h9", "h9a", "h99", "h999@a", "h9@", "h9@c", "h9@aa", "h9@a;", "h0@a", "h00@a", "h0", "h00", "h0;", "h000@a", "b;h0@a"};
        int[] places = {0, 0, 0, 0, 1, 2, 2, 1, 2, 1, 2, 3, 3, 5, 4,
            5, 2, 1, 2, 2, 1, 3, 3, 3, 1, 1, 1, 2, 2, 3, 4,
            4, 3, 3, 4, 4, 4, 5, 5, 5, 6, 3, 1, 1,
            2, 2, 3, 3, 3, 3, 4, 5, 1, 2, 1, 2, 1, 2, 3};
        CHECK.due("as many texts as places", texts.length, places.length);
        for (int i = 0; i < texts.length; i++) {
            faulty(there, texts[i], places[i]);
        }
        faulty("", "wab1", 1);
        faulty("", "h9@a", 3);
        // the first sign of a line for which there is no room, be it a wrong line, behind others that could come
        faulty("f;f;f;f;f;f;f;f;f", "f;f", 2);
        faulty("f;f;f;f;f;f;f;f;f;b", "h9@a;t", 5);
        faulty("f;f;f;f;f;f;f;f;f;b", "bx", 0);
        faulty("b;p1-1@a;p1-1@a;p1-1@a;p1-1@a", "p1-1@a;px", 7);
        faulty("b;h1@a;h1@a;h1@a;h1@a;h1@a", "b;h0@z", 2);
        faulty("f;f;wab1;wab1;wab1;wab1;wab1;wab1;wab1;wab1;wab1;wab1;wab1;wab1", "wab1;wab1;waa0", 10);
    }

    /** Promise 4: "76, if it has more and the first 76 could go on or end". */
    private static void kitchenLimit() {
        String ways = "wab1!;wab1!;wab1!;wab1!;wab1!;wab1!;wab1!;wab1!;wab1!;wab1!;wab1!;wab1!;";
        String there = "b;f";
        CHECK.due("72 signs", ways.length(), 72);
        faulty(there, ways + "wab1" + "!", 76);
        faulty(there, ways + "wab1" + ";", 76);
        faulty(there, ways + "wab1" + "x", 76);
        faulty(there, ways + "wab1" + "xxxx", 76);
        faulty(there, ways + "f;wa" + "b1", 76);
        faulty(there, ways + "f;p9" + "-1@", 76);
        faulty(there, ways + "f;f;" + "f", 76);
        faulty(there, ways + "f;f;" + "x", 76);
        faulty(there, ways + "f;fx" + ";f", 75);
        faulty(there, ways + "h00@" + "a", 74);
        faulty(there, ways + "b;h0" + "0@a", 76);
        faulty(there, ways + "b;h0" + "5@a", 76);
        faulty(there, ways + "h0@a" + ";f", 73);
        faulty(there, ways + "fh0", 73);
        faulty(there, ways + "b;h0", 75);
        faulty(there, ways + "waa1" + ";f", 74);
        faulty(there, ways + "f;f;", 76);
        faulty(there, ways + "f;wa", 76);
        faulty(there, ways + "wab0", 75);
        HotThrough x = Check.told(there);
        CHECK.due("just 76", Check.kitchen(x, ways + "wab9"), 13);
        CHECK.due("the last of them", x.way(12, 2), 9);
        HotThrough y = Check.told(there);
        CHECK.due("just 75", Check.kitchen(y, ways + "f;f"), 14);
    }

    /** Promise 4: "Nothing of it comes, if a LINE can't". */
    private static void kitchenIsWholeOrNothing() {
        HotThrough x = Check.told("b;b;wab1!;p9-1@a;h9@a");
        x.door(0, 1);
        x.take(0, 0);
        x.keep(2);
        Check.text(x, "t;wab2!;p8-2@c;h8@c;x");
        CHECK.due("all but the last line", x.kitchen(), fault(20));
        CHECK.due("no place", x.count(0), 2);
        CHECK.due("no way", x.count(1), 1);
        CHECK.due("no pot", x.count(2), 1);
        CHECK.due("nobody", x.count(3), 1);
        CHECK.due("the door is open still", x.count(5), 1);
        CHECK.due("two acts can be undone", x.count(8), 2);
        CHECK.missing("no place 2", () -> x.place(2, 0));
        CHECK.missing("no way 1", () -> x.way(1, 0));
        CHECK.missing("no pot 1", () -> x.pot(1, 0));
        CHECK.missing("no person 1", () -> x.person(1, 0));
        CHECK.due("nothing came since", x.again(2), true);
    }

    /** Promise 5: "THE TEXT is THE RULE (an empty one: none): 0", and 40. */
    private static void rules() {
        HotThrough x = holder();
        CHECK.due("a rule", Check.rule(x, "7"), 0);
        CHECK.due("no text is left", x.count(11), 0);
        String[] wrong = {"x", "7x", "h+", "7+", "(7", "7)", "1234", "\0", "7 ", ";", "*7", "7*", "a", "c", "t", "H"};
        int[] places = {0, 1, 2, 2, 2, 1, 3, 0, 1, 0, 0, 2, 0, 0, 0, 0};
        for (int i = 0; i < wrong.length; i++) {
            CHECK.due("rule " + wrong[i], Check.rule(x, wrong[i]), fault(places[i]));
            CHECK.due("no text is left of " + wrong[i], x.count(11), 0);
            CHECK.due("still seven", x.person(1, 8), 7);
        }
        CHECK.due("an empty one", x.rule(), 0);
        CHECK.due("none: 120/1", x.person(1, 8), 120);
        CHECK.due("one act: to take", x.count(8), 1);
        String ones = "1+1+1+1+1+1+1+1+1+1+1+1+1+1+1+1+1+1+1+1+";
        CHECK.due("forty signs", ones.length(), 40);
        CHECK.due("39", Check.rule(x, ones.substring(0, 39)), 0);
        CHECK.due("20 ones", x.person(1, 8), 20);
        CHECK.due("40 that end", Check.rule(x, ones.substring(0, 39) + "9"), 0);
        CHECK.due("19 ones and 19", x.person(1, 8), 38);
        CHECK.due("40 that end too early", Check.rule(x, ones), fault(40));
        CHECK.due("40 that could end, and more", Check.rule(x, ones.substring(0, 39) + "9" + "+1"), fault(40));
        CHECK.due("40 that could go on, and more", Check.rule(x, ones + "1"), fault(40));
        CHECK.due("40 that could end, and what can't stand", Check.rule(x, ones.substring(0, 39) + "9" + "x"), fault(40));
        CHECK.due("a fault at 39", Check.rule(x, ones.substring(0, 39) + "x" + "+1"), fault(39));
        CHECK.due("a fault at 38, of 80", Check.rule(x, ones.substring(0, 38) + "x+" + ones), fault(38));
        CHECK.due("80 signs", Check.rule(x, ones + ones), fault(40));
        CHECK.due("a number that is cut", Check.rule(x, ones.substring(0, 38) + "99" + "99"), fault(40));
        CHECK.due("still 38", x.person(1, 8), 38);
    }

    /** Promises 6 to 9: "NoSuchElementException: none such, another what". */
    private static void whatIsMissing() {
        HotThrough x = Check.told("b;f;wab1;wab2!;p9-0@a;p8-0@a;p7-0@a;h9@a;h9@a;h9@a;h9@a");
        for (int asked = 0; asked <= 8; asked++) {
            missingOne(x, 2, 2, 3, 4, asked);
            for (int wrong : NO_NUMBERS) {
                missingOne(x, wrong, wrong, wrong, wrong, asked);
            }
        }
        for (int what : NO_NUMBERS) {
            CHECK.missing("place(0, " + what + ")", () -> x.place(0, what));
            CHECK.missing("way(0, " + what + ")", () -> x.way(0, what));
            CHECK.missing("pot(0, " + what + ")", () -> x.pot(0, what));
            CHECK.missing("person(0, " + what + ")", () -> x.person(0, what));
        }
        CHECK.missing("place(0, 4)", () -> x.place(0, 4));
        CHECK.missing("way(0, 4)", () -> x.way(0, 4));
        CHECK.missing("pot(0, 5)", () -> x.pot(0, 5));
        CHECK.missing("person(0, 9)", () -> x.person(0, 9));
        lastOnes(x);
    }

    private static void missingOne(HotThrough x, int place, int way, int pot, int person, int what) {
        if (what <= 3) {
            CHECK.missing("place(" + place + ", " + what + ")", () -> x.place(place, what));
            CHECK.missing("way(" + way + ", " + what + ")", () -> x.way(way, what));
        }
        if (what <= 4) {
            CHECK.missing("pot(" + pot + ", " + what + ")", () -> x.pot(pot, what));
        }
        CHECK.missing("person(" + person + ", " + what + ")", () -> x.person(person, what));
    }

    /** The last one of each, and the last thing that can be asked of it, are there. */
    private static void lastOnes(HotThrough x) {
        CHECK.due("place(1, 3)", x.place(1, 3), 3);
        CHECK.due("way(1, 3)", x.way(1, 3), 1);
        CHECK.due("pot(2, 4)", x.pot(2, 4), 0);
        CHECK.due("person(3, 8)", x.person(3, 8), 0);
        CHECK.due("no pot on b", x.place(1, 1), 0);
        CHECK.due("nobody at b", x.place(1, 2), 0);
        CHECK.due("person(3, 6) holds none", x.person(3, 6), -1);
        CHECK.due("pot(2, 3) is held by nobody", x.pot(2, 3), -1);
        Check.kitchen(x, "t");
        CHECK.due("no way ends at c", x.place(2, 3), 0);
        x.take(3, 2);
        CHECK.due("pot(2, 2) is on none", x.pot(2, 2), -1);
        CHECK.due("person(3, 8) by no rule", x.person(3, 8), 7);
    }

    /** Promise 10: "HEAT of a POT that is not DROPPED becomes v (0 .. 999): what it was. Refused: others". */
    private static void heats() {
        HotThrough x = Check.told("b;p500-0@a;p600-0@a;h9@a");
        CHECK.due("999", x.heat(1, 999), 600);
        CHECK.due("0", x.heat(1, 0), 999);
        CHECK.due("0 again", x.heat(1, 0), 0);
        int[] wrong = {-1, 1000, LEAST, GREATEST};
        for (int v : wrong) {
            CHECK.leaves("heat(0, " + v + ")", x, () -> x.heat(0, v), -1);
        }
        for (int p : NO_NUMBERS) {
            CHECK.leaves("heat(" + p + ", 5)", x, () -> x.heat(p, 5), -1);
        }
        CHECK.leaves("heat(2, 5)", x, () -> x.heat(2, 5), -1);
        x.take(0, 0);
        CHECK.due("of one that is held", x.heat(0, 400), 500);
        CHECK.due("it is that", x.pot(0, 0), 400);
        x.pass(1);
        CHECK.leaves("of one that is dropped", x, () -> x.heat(0, 5), -1);
        CHECK.leaves("of one that is dropped, 0", x, () -> x.heat(0, 0), -1);
    }

    /** Promise 11: what a sheet tells, one that is too short, too long, missing. */
    private static void sheets() {
        HotThrough x = Check.told("b;p1-0@a;p2-0@a;p3-0@a;h9@a");
        int[] kinds = {-1, 4, LEAST, GREATEST};
        for (int kind : kinds) {
            CHECK.leaves("kind " + kind, x, () -> x.sheet(kind, 3, 5, 5), -1);
            CHECK.leaves("kind " + kind + ", n below 0", x, () -> x.sheet(kind, -1, 5, 5), -1);
            CHECK.leaves("kind " + kind + ", n above 5", x, () -> x.sheet(kind, 6, 5, 5), -1);
        }
        for (int kind = 0; kind <= 3; kind++) {
            int same = kind;
            CHECK.leaves("n 6 of kind " + kind, x, () -> x.sheet(same, 6, 5, 5), -1);
            CHECK.leaves("the greatest n of kind " + kind, x, () -> x.sheet(same, GREATEST, 5, 5), -1);
        }
        for (int kind = 0; kind <= 2; kind++) {
            int same = kind;
            CHECK.leaves("n -1 of kind " + kind, x, () -> x.sheet(same, -1, 5, 5), -2);
            CHECK.leaves("the least n of kind " + kind, x, () -> x.sheet(same, LEAST, 5, 5), -2);
        }
        int[] missing = {5, 0, -1, LEAST};
        for (int n : missing) {
            x.sheet(2, 3, 5, 5);
            CHECK.due("a missing one, n " + n, x.sheet(3, n, 5, 5), -3);
            CHECK.due("all 0", x.pot(0, 0) + x.pot(1, 0) + x.pot(2, 0), 0);
        }
        sheet(x, 2, 0, 5, 5, 0, 0, 0);
        sheet(x, 2, 1, 5, 6, 5, 0, 0);
        sheet(x, 2, 3, 5, 6, 5, 11, 17);
        sheet(x, 2, 5, 5, 6, 5, 11, 17);
        sheet(x, 2, 3, 999, 1, 999, 999, 999);
        sheet(x, 2, 3, 1, -1, 1, 0, 0);
        sheet(x, 2, 3, GREATEST, 1, 999, 0, 0);
        sheet(x, 2, 3, LEAST, -1, 0, 999, 999);
        sheet(x, 2, 3, 65541, 0, 999, 999, 999);
        sheet(x, 0, 3, 126, 1, 126, 127, 0);
        sheet(x, 0, 3, 254, 1, 0, 0, 0);
        sheet(x, 0, 3, 255, 1, 0, 0, 1);
        sheet(x, 0, 3, 128, 128, 0, 0, 0);
        sheet(x, 0, 3, -200, 1, 56, 57, 58);
        sheet(x, 0, 3, GREATEST, 1, 0, 0, 1);
        sheet(x, 1, 3, 998, 1, 998, 999, 999);
        sheet(x, 1, 3, 32767, 1, 999, 0, 0);
        sheet(x, 1, 3, 65535, 1, 0, 0, 1);
        sheet(x, 1, 3, -65536, 7, 0, 7, 14);
        sheet(x, 1, 3, GREATEST, 2, 0, 1, 3);
        x.heat(1, 99);
        x.take(0, 1);
        x.pass(1);
        CHECK.due("one is dropped", x.count(6), 2);
        sheet(x, 2, 3, 5, 6, 5, 0, 17);
        sheet(x, 2, 2, 5, 6, 5, 0, 0);
        sheet(x, 1, 3, 700, 0, 700, 0, 700);
        CHECK.due("it is dropped still", x.count(6), 2);
        CHECK.due("a missing one", x.sheet(3, 0, 0, 0), -3);
        CHECK.due("of no pots", new HotThrough().sheet(2, 5, 9, 9), 0);
    }

    private static void sheet(HotThrough x, int kind, int n, int f, int step, int a, int b, int c) {
        String what = "sheet(" + kind + ", " + n + ", " + f + ", " + step + ")";
        CHECK.due(what, x.sheet(kind, n, f, step), a + b + c);
        CHECK.due(what + ", pot 0", x.pot(0, 0), a);
        CHECK.due(what + ", pot 1", x.pot(1, 0), b);
        CHECK.due(what + ", pot 2", x.pot(2, 0), c);
    }
}
