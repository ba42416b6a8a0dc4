/** Promises 22 to 26: how long one can hold a pot, and with what. */
public final class HoldTest {
    private static final Check CHECK = new Check("HoldTest");

    public static void main(String[] args) {
        lasting();
        swapping();
        swappingHands();
        howOften();
        layers();
        hottest();
        nothingChanges();
        CHECK.finish();
    }

    private static HotThrough room(String rule) {
        HotThrough x = Check.told("b;f;wab1;p100-5@a;p40-0@a;h30@a;h50@a;h99@b");
        Check.rule(x, rule);
        return x;
    }

    private static void lasting() {
        HotThrough x = room("h/10");
        CHECK.due("holds none", x.lasts(0), -1);
        CHECK.due("none such", x.lasts(3), -1);
        CHECK.due("nobody -1", x.lasts(-1), -1);
        x.take(0, 0);
        // 10, 19, 28, 36
        CHECK.due("burnt in the fourth", x.lasts(0), 4);
        CHECK.row("burnt in the fourth", x, 85);
        x.give(0, 1);
        // 10, 19, 28, 36, 44, 51
        CHECK.due("burnt in the sixth", x.lasts(1), 6);
        CHECK.row("burnt in the sixth", x, 75);
        Check.rule(x, "1");
        CHECK.due("one bears 50", x.lasts(1), 51);
        CHECK.row("long cold", x, 0);
        Check.rule(x, "h/50");
        // 100 .. 50 come through as 2, 1, 1, 1, 1, 1, 1, 1, 1, 1, 1
        CHECK.due("not in 300", x.lasts(1), -2);
        CHECK.row("how warm", x, 12);
        Check.rule(x, "s=299");
        x.pass(0);
        CHECK.due("one alone", x.lasts(1), -2);
        CHECK.row("one alone", x, 1);
        Check.rule(x, "(s=299)*99");
        CHECK.due("in the last", x.lasts(1), 300);
        CHECK.row("in the last", x, 0);
        Check.rule(x, "(s=300)*99");
        CHECK.due("behind the last", x.lasts(1), -2);
        CHECK.row("behind the last", x, 0);
        Check.rule(x, "999");
        CHECK.due("at once", x.lasts(1), 1);
        CHECK.row("at once", x, 100);
        CHECK.due("holds none now", x.lasts(0), -1);
        CHECK.row("refused", x, 100);
    }

    private static void swapping() {
        HotThrough x = room("10");
        CHECK.due("holds none", x.swaps(0, 1), -1);
        x.take(0, 1);
        CHECK.due("n 0", x.swaps(0, 0), -1);
        CHECK.due("n 100", x.swaps(0, 100), -1);
        CHECK.due("n -1", x.swaps(0, -1), -1);
        CHECK.due("none such", x.swaps(3, 5), -1);
        // hand 0: 10, 20, 30, 40
        CHECK.due("too late", x.swaps(0, 5), 4);
        CHECK.row("too late", x, 0);
        // hand 1 from the fourth on: 10, 20, 30, 40
        CHECK.due("ahead of the fourth", x.swaps(0, 4), 7);
        CHECK.row("ahead of the fourth", x, 1);
        // 10, 10, 18, 18, 24, 24, 28, 28, 31
        CHECK.due("each one", x.swaps(0, 1), 9);
        CHECK.row("each one", x, 9);
        Check.rule(x, "5");
        CHECK.due("each third one for ever", x.swaps(0, 3), -2);
        CHECK.row("each third one for ever", x, 100);
        // 15, 20, 26, 27, 29, 29, 30, 30, 31
        CHECK.due("each fourth one for long", x.swaps(0, 4), 35);
        CHECK.row("each fourth one for long", x, 8);
        Check.rule(x, "r*20");
        // hand 1 in seconds 3, 4 and no 5: then 0
        CHECK.due("hand 1 is burnt", x.swaps(0, 3), 4);
        CHECK.row("hand 1 is burnt", x, 1);
        CHECK.due("the hand that is used does not change", x.person(0, 4), 0);
        Check.rule(x, "16");
        // n 2: 16 | 16 32: burnt in the third
        CHECK.due("each second one", x.swaps(0, 2), 3);
        CHECK.row("each second one", x, 1);
        Check.rule(x, "n+1");
        // 1, 1, 3, 3, 7, 7, 13, 13, 21, 21, 33
        CHECK.due("each one, more and more", x.swaps(0, 1), 11);
        CHECK.row("each one, more and more", x, 11);
    }

    /** Of another one, who uses the other hand; the hand is told to the rule. */
    private static void swappingHands() {
        HotThrough x = room("9");
        x.take(1, 0);
        x.pass(3);
        x.change(1);
        Check.rule(x, "12");
        // hand 1: 12 24 36; then hand 0: 27 21 16 28 40, 52
        CHECK.due("from hand 1 to hand 0", x.swaps(1, 4), 7);
        CHECK.row("from hand 1 to hand 0", x, 1);
        Check.rule(x, "r*4+1");
        // hand 1 5; hand 0 27-6+1 .. : 1 and 5 by turns
        CHECK.due("by turns for ever", x.swaps(1, 1), -2);
        Check.rule(x, "(r>1)*99+(r<0)*99");
        CHECK.due("r is 0 or 1", x.swaps(1, 1), -2);
        CHECK.row("r is 0 or 1", x, 300);
        Check.rule(x, "(s=102)*99");
        CHECK.due("n 99, in second 100", x.swaps(1, 99), 100);
        CHECK.row("n 99, in second 100", x, 1);
    }

    private static void howOften() {
        HotThrough x = room("10");
        CHECK.due("holds none", x.often(0), -1);
        CHECK.due("none such", x.often(3), -1);
        x.take(0, 1);
        CHECK.due("each one, the longest", x.often(0), 1);
        CHECK.row("each one, the longest", x, 9);
        Check.rule(x, "5");
        CHECK.due("the greatest", x.often(0), 3);
        CHECK.row("the greatest", x, -1);
        Check.rule(x, "0");
        CHECK.due("any", x.often(0), 99);
        CHECK.row("any", x, -1);
        Check.rule(x, "31");
        CHECK.due("none is better", x.often(0), 1);
        CHECK.row("none is better", x, 1);
        Check.rule(x, "16");
        // n 1: 16 each: hand 1 16, hand 0 16, hand 1 12+16
        int best = 0;
        int longest = -1;
        boolean forever = false;
        for (int n = 99; n >= 1; n--) {
            int after = x.swaps(0, n);
            if (!forever && (after == -2 || after >= longest)) {
                best = n;
                longest = after;
                forever = after == -2;
            }
        }
        CHECK.due("as swaps() tells", x.often(0), best);
        CHECK.row("as swaps() tells", x, forever ? -1 : longest);
    }

    private static void layers() {
        HotThrough x = room("");
        // 100/1, 100/11, 100/21, ..: one bears 30
        CHECK.due("one second", x.layers(0, 0, 1), 1);
        CHECK.row("one second", x, 9);
        // fold 1: 9+8+8 = 25, 32; fold 2: 4+4+4+4
        CHECK.due("four seconds", x.layers(0, 0, 4), 2);
        CHECK.row("four seconds", x, 16);
        CHECK.due("n 0", x.layers(0, 0, 0), -1);
        CHECK.due("n 100", x.layers(0, 0, 100), -1);
        CHECK.due("no pot", x.layers(0, 2, 1), -1);
        CHECK.due("pot -1", x.layers(0, -1, 1), -1);
        CHECK.due("nobody", x.layers(3, 0, 1), -1);
        CHECK.due("nobody -1", x.layers(-1, 0, 1), -1);
        CHECK.row("refused", x, 16);
        Check.rule(x, "f=2");
        CHECK.due("99 seconds", x.layers(0, 0, 99), 0);
        Check.rule(x, "31*(f<9)");
        CHECK.due("the most", x.layers(0, 0, 3), 9);
        CHECK.row("the most", x, 0);
        Check.rule(x, "31-(f=7)");
        CHECK.due("just seven", x.layers(0, 0, 1), 7);
        CHECK.row("just seven", x, 30);
        CHECK.due("none", x.layers(0, 0, 2), -2);
        CHECK.row("none", x, 30);
        Check.rule(x, "10");
        x.take(0, 1);
        x.pass(2);
        CHECK.due("as warm as it is", x.layers(0, 1, 1), 0);
        CHECK.due("too warm", x.layers(0, 1, 2), -2);
        CHECK.due("another pot than the one it holds", x.layers(0, 0, 1), 0);
        CHECK.due("one that another holds", x.layers(2, 1, 9), 0);
        x.change(0);
        CHECK.due("the other hand", x.layers(0, 1, 3), 0);
        CHECK.row("the other hand", x, 30);
        x.change(0);
        x.pass(2);
        CHECK.due("dropped", x.layers(0, 1, 1), -1);
    }

    private static void hottest() {
        HotThrough x = room("");
        // fold 0: the heat itself; one bears 30
        CHECK.due("one second", x.hottest(0, 0, 1), 30);
        // v + v-5
        CHECK.due("two seconds", x.hottest(0, 0, 2), 17);
        x.fold(0, 9);
        CHECK.due("fold 9", x.hottest(0, 0, 1), 999);
        CHECK.due("fold 9, four seconds", x.hottest(0, 1, 4), 727);
        CHECK.due("n 0", x.hottest(0, 0, 0), -1);
        CHECK.due("n 100", x.hottest(0, 0, 100), -1);
        CHECK.due("no pot", x.hottest(0, 2, 1), -1);
        CHECK.due("nobody", x.hottest(3, 0, 1), -1);
        Check.rule(x, "(h=500)*31");
        CHECK.due("each lesser one too", x.hottest(0, 1, 1), 499);
        Check.rule(x, "(h=999)*31");
        CHECK.due("all but 999", x.hottest(0, 1, 1), 998);
        CHECK.due("99 seconds", x.hottest(0, 1, 99), 998);
        Check.rule(x, "(h=0)*31");
        CHECK.due("not even 0", x.hottest(0, 1, 1), -2);
        Check.rule(x, "99");
        x.take(0, 1);
        x.pass(1);
        CHECK.due("dropped", x.hottest(0, 1, 1), -1);
        CHECK.row("it tells no row", x, 1, 2);
        x.pass(1);
        CHECK.due("it tells no row", x.count(10), 2);
    }

    private static void nothingChanges() {
        HotThrough x = room("h/10");
        x.take(0, 0);
        x.pass(1);
        x.lasts(0);
        x.swaps(0, 3);
        x.often(0);
        x.layers(0, 0, 5);
        x.hottest(0, 0, 5);
        CHECK.due("now", x.count(4), 1);
        CHECK.due("heat", x.pot(0, 0), 95);
        CHECK.due("warm", x.person(0, 2), 10);
        CHECK.due("fold", x.person(0, 5), 0);
        CHECK.due("hand", x.person(0, 4), 0);
        CHECK.due("two acts", x.count(8), 2);
    }
}
