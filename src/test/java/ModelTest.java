import java.util.ArrayList;
import java.util.List;
import java.util.NoSuchElementException;
import java.util.Random;

/** Runs of calls drawn by a seed: the class must answer as Plain does. Arguments: first seed, runs, calls of each. */
public final class ModelTest {
    private static final String[] RULES = {"", "h/10", "h/(10*f+3)", "h/20+1", "n/4+1", "(h>100)*9", "s*2-n", "b/7",
        "10", "5", "h/30+(i=1)*3", "r*9+2", "(p=1)*5+4", "(s<20)*7", "h/(f+9)-n/9", "1", "n+1", "0", "s/3+1", "b-n"};
    private static final String[] DEEP_RULES = {"h/100", "h/60+1", "5", "7", "9", "12", "h/50", "n/6+4", "b/9+1", "b/6",
        "(s<30)*9+1", "h/90+(i=1)*5", "(p=1)*4+6", "4+i", "s-s/7*7", "(s-s/2*2)*14", "9-i*2", "h/30-f", "r*5+4", "h/99+p"};
    private static final int[] WRONG = {-2, -1, 3, 5, 8, 10, 13, 14, 31, 32, 64, Integer.MAX_VALUE, Integer.MIN_VALUE};
    private static final int CALLS = 120;

    private final Random random;
    private HotThrough x;
    private Plain plain;
    private final List<String> log = new ArrayList<>();
    /** Each fourth run has a whole kitchen, and is about carrying through it. */
    private final boolean deep;
    private int answered;
    private int told;

    private ModelTest(long seed) {
        random = new Random(seed);
        deep = seed % 4 == 0;
    }

    public static void main(String[] args) {
        long first = args.length > 0 ? Long.parseLong(args[0]) : 1;
        int runs = args.length > 1 ? Integer.parseInt(args[1]) : 300;
        int calls = args.length > 2 ? Integer.parseInt(args[2]) : CALLS;
        long answers = 0;
        long rows = 0;
        for (long seed = first; seed < first + runs; seed++) {
            ModelTest test = new ModelTest(seed);
            String fault = test.run(calls);
            answers += test.answered;
            rows += test.told;
            if (fault != null) {
                System.out.println("ModelTest, seed " + seed + ": " + fault);
                for (String line : test.log) {
                    System.out.println("  " + line);
                }
                System.exit(1);
            }
        }
        System.out.println("ModelTest: " + runs + " runs as due, " + answers + " answers of 0 and more, " + rows
            + " rows");
    }

    private int below(int n) {
        return random.nextInt(n);
    }

    private boolean chance(int percent) {
        return below(100) < percent;
    }

    /** Mostly a number that is there, now and then another one. */
    private int some(int there) {
        return chance(3) ? WRONG[below(WRONG.length)] : below(Math.max(1, there));
    }

    private int person() {
        return some(plain.world.people.size());
    }

    private int pot() {
        return some(plain.world.pots.size());
    }

    private int place() {
        return some(plain.kinds.size());
    }

    private int way() {
        return some(plain.ways.size());
    }

    /** One who holds a pot, if there is such a one. */
    private int holder() {
        for (int k = 0; k < 8; k++) {
            int p = person();
            if (p >= 0 && p < plain.world.people.size() && plain.world.people.get(p).pot >= 0) {
                return p;
            }
        }
        return person();
    }

    private String run(int calls) {
        x = new HotThrough();
        plain = new Plain();
        String fault = null;
        for (int k = 0; k < calls && fault == null; k++) {
            fault = deep ? k == 0 ? wholeKitchen() : deepCall() : k < 3 ? kitchen(k > 0) : call();
            if (fault == null) {
                fault = compareRow();
            }
            if (fault == null && (k % 8 == 7 || k == calls - 1)) {
                fault = compareState();
            }
        }
        return fault;
    }

    private String compareRow() {
        int size = x.count(10);
        if (size != plain.row.size()) {
            return "the row has " + size + " numbers, due are " + plain.row;
        }
        for (int i = 0; i < size; i++) {
            if (x.row(i) != plain.row(i)) {
                return "row(" + i + ") is " + x.row(i) + ", due are " + plain.row;
            }
        }
        told += size;
        return null;
    }

    /** An answer, or a number that no call answers for the exception of the document. */
    private static long answer(Check.Call call) {
        try {
            return call.get();
        } catch (NoSuchElementException e) {
            return Long.MIN_VALUE;
        }
    }

    private String same(String what, Check.Call of, Check.Call due) {
        log.add(what);
        long wanted = answer(due);
        long got;
        try {
            got = answer(of);
        } catch (RuntimeException e) {
            return what + " throws " + e;
        }
        if (got != wanted) {
            return what + " answered " + got + ", due is " + wanted;
        }
        if (got >= 0) {
            answered++;
        }
        return null;
    }

    private String quiet(String what, Check.Call of, Check.Call due) {
        long got = answer(of);
        long wanted = answer(due);
        return got == wanted ? null : what + " is " + got + ", due is " + wanted;
    }

    private String compareState() {
        String fault = null;
        for (int what = -1; what <= 12 && fault == null; what++) {
            int w = what;
            fault = quiet("count(" + w + ")", () -> x.count(w), () -> plain.count(w));
            for (int i = -1; i <= 14 && fault == null; i++) {
                int p = i;
                fault = quiet("place(" + p + "," + w + ")", () -> x.place(p, w), () -> plain.place(p, w));
                if (fault == null) {
                    fault = quiet("way(" + p + "," + w + ")", () -> x.way(p, w), () -> plain.way(p, w));
                }
                if (fault == null) {
                    fault = quiet("pot(" + p + "," + w + ")", () -> x.pot(p, w), () -> plain.pot(p, w));
                }
                if (fault == null) {
                    fault = quiet("person(" + p + "," + w + ")", () -> x.person(p, w), () -> plain.person(p, w));
                }
            }
        }
        return fault;
    }

    // ---- texts

    private String give(String text) {
        Check.text(x, text);
        plain.text.append(text);
        return text;
    }

    /** A text as it should not be, now and then. */
    private String spoiled(String text, String signs, int percent) {
        StringBuilder s = new StringBuilder(text);
        while (chance(percent)) {
            int p = below(s.length() + 1);
            char c = signs.charAt(below(signs.length()));
            if (chance(40) && p < s.length()) {
                s.setCharAt(p, c);
            } else if (chance(50) && p < s.length()) {
                s.deleteCharAt(p);
            } else {
                s.insert(p, c);
            }
        }
        if (s.length() > 80) {
            s.setLength(80);
        }
        return s.toString();
    }

    private String kitchen(boolean more) {
        StringBuilder s = new StringBuilder();
        int places = plain.kinds.size();
        int lines = 2 + below(14);
        for (int k = 0; k < lines && s.length() < 70; k++) {
            s.append(k == 0 ? "" : ";");
            int letter = Math.max(1, Math.min(places, 10));
            int kind = places < 2 ? 0 : below(10);
            if (kind < 3) {
                s.append("fbbt".charAt(below(4)));
                places++;
            } else if (kind < 7 || plain.world.pots.size() > 2 && chance(70)) {
                int one = below(letter);
                int other = chance(60) ? (one + 1) % letter : below(letter);
                s.append('w').append((char) ('a' + one)).append((char) ('a' + (other == one ? (one + 1) % letter : other)));
                s.append(1 + below(chance(70) ? 4 : 9)).append(chance(30) ? "!" : "");
            } else if (kind < 8) {
                s.append('p').append(below(chance(50) ? 1000 : 200)).append('-').append(below(10));
                s.append('@').append(solid(letter));
            } else {
                s.append('h').append(1 + below(99)).append('@').append((char) ('a' + below(letter)));
            }
        }
        String text = give(spoiled(s.toString(), "fbtwph0123456789abcdeijk-@!;x", more ? 12 : 2));
        return same("kitchen " + text, () -> x.kitchen(), () -> plain.kitchen());
    }

    /** The letter of a board or table that is there, if there is one; else a guess. */
    private char solid(int letters) {
        for (int k = 0; k < 6; k++) {
            int p = below(letters);
            if (p < plain.kinds.size() && plain.kinds.get(p) != 0) {
                return (char) ('a' + p);
            }
        }
        return (char) ('a' + below(letters));
    }

    private String rule() {
        String rule = chance(60) ? RULES[below(RULES.length)] : expression(3);
        rule = spoiled(rule.length() > 44 ? rule.substring(0, 44) : rule, "hfnbsiprx0123456789<>=+-*/()", 12);
        String text = give(rule);
        return same("rule " + text, () -> x.rule(), () -> plain.rule());
    }

    private String expression(int depth) {
        String s = sum(depth);
        return chance(20) ? s + "<>=".charAt(below(3)) + sum(depth) : s;
    }

    private String sum(int depth) {
        StringBuilder s = new StringBuilder(product(depth));
        while (chance(35)) {
            s.append("+-".charAt(below(2))).append(product(depth));
        }
        return s.toString();
    }

    private String product(int depth) {
        StringBuilder s = new StringBuilder(thing(depth));
        while (chance(30)) {
            s.append("*/".charAt(below(2))).append(thing(depth));
        }
        return s.toString();
    }

    private String thing(int depth) {
        String minus = chance(10) ? "-" : "";
        if (depth > 0 && chance(20)) {
            return minus + "(" + expression(depth - 1) + ")";
        }
        return minus + (chance(60) ? "" + "hfnbsipr".charAt(below(8)) : "" + below(chance(70) ? 20 : 1000));
    }

    private String dinner() {
        StringBuilder s = new StringBuilder();
        int acts = below(chance(80) ? 7 : 24);
        for (int k = 0; k < acts && s.length() < 70; k++) {
            s.append(k == 0 ? "" : ";");
            int one = Math.max(0, holder());
            one = one > 9 ? 9 : one;
            switch (below(8)) {
                case 0: s.append('t').append(Math.min(9, Math.max(0, person()))).append(Math.max(0, pot()) % 10); break;
                case 1: s.append('d').append(one); break;
                case 2: s.append('w').append(one).append(Math.max(0, way())); break;
                case 3: s.append('s').append(below(chance(80) ? 6 : 100)); break;
                case 4: s.append('c').append(one); break;
                case 5: s.append('g').append(one).append(Math.max(0, person()) % 10); break;
                case 6: s.append('o').append(chance(30) ? "0" : "").append(Math.max(0, way()) % 10); break;
                default: s.append('c').append(one);
            }
        }
        String text = give(spoiled(s.length() > 80 ? s.substring(0, 80) : s.toString(), "tdwscgo0123456789;x", 8));
        return same("dinner " + text, () -> x.dinner(), () -> plain.dinner());
    }

    private String odd() {
        int v = random.nextInt();
        int n = below(90) - 4;
        String fault = same("sign(" + v + ")", () -> x.sign(v), () -> plain.sign(v));
        if (fault == null) {
            fault = same("end(" + n + ")", () -> x.end(n) ? 1 : 0, () -> plain.end(n) ? 1 : 0);
        }
        if (fault == null && chance(80)) {
            int which = below(3);
            fault = which == 0 ? same("kitchen", () -> x.kitchen(), () -> plain.kitchen())
                : which == 1 ? same("rule", () -> x.rule(), () -> plain.rule())
                : same("dinner", () -> x.dinner(), () -> plain.dinner());
        }
        if (fault == null) {
            fault = same("end(0)", () -> x.end(0) ? 1 : 0, () -> plain.end(0) ? 1 : 0);
        }
        return fault;
    }

    /** Some places in a line, the turn drawn, with some more ways; pots and people. */
    private String wholeKitchen() {
        int places = 4 + below(7);
        List<String> lines = new ArrayList<>();
        StringBuilder solid = new StringBuilder();
        List<Integer> turn = new ArrayList<>();
        for (int p = 0; p < places; p++) {
            String kind = p == 0 ? "b" : p == 1 ? "t" : "" + "bbbtf".charAt(below(5));
            lines.add(kind);
            if (!kind.equals("f")) {
                solid.append((char) ('a' + p));
            }
            turn.add(below(turn.size() + 1), p);
        }
        int ways = places - 1 + below(16 - places);
        for (int w = 0; w < ways; w++) {
            int one = w < places - 1 ? turn.get(w) : below(places);
            int other = w < places - 1 ? turn.get(w + 1) : (one + 1 + below(places - 1)) % places;
            boolean door = chance(w < places - 1 ? 3 : 60);
            lines.add("w" + (char) ('a' + one) + (char) ('a' + other) + (1 + below(chance(60) ? 3 : 9)) + (door ? "!" : ""));
        }
        int pots = 2 + below(4);
        for (int p = 0; p < pots; p++) {
            char at = solid.charAt(below(solid.length()));
            lines.add("p" + (100 + below(900)) + "-" + below(chance(70) ? 3 : 10) + "@" + at);
        }
        int people = 2 + below(4);
        for (int p = 0; p < people; p++) {
            lines.add("h" + (30 + below(70)) + "@" + (p < 2 ? solid.charAt(below(solid.length())) : (char) ('a' + below(places))));
        }
        String fault = null;
        for (int k = 0; k < lines.size() && fault == null; k++) {
            String text = give(lines.get(k));
            fault = same("kitchen " + text, () -> x.kitchen(), () -> plain.kitchen());
        }
        return fault;
    }

    private String deepCall() {
        int which = below(100);
        if (which < 10) {
            String text = give(DEEP_RULES[below(DEEP_RULES.length)]);
            return same("rule " + text, () -> x.rule(), () -> plain.rule());
        }
        if (which < 22) {
            int one = Math.max(0, Math.min(person(), plain.world.people.size() - 1));
            int on = plain.place(plain.world.people.get(one).at, 1);
            int p = on == 0 ? pot() : Integer.numberOfTrailingZeros(on);
            return same("take(" + one + "," + p + ")", () -> x.take(one, p), () -> plain.take(one, p));
        }
        if (which < 40) {
            int one = holder();
            int way = way();
            int seconds = below(4);
            switch (below(4)) {
                case 0: return same("pass(" + seconds + ")", () -> x.pass(seconds), () -> plain.pass(seconds));
                case 1: return same("change(" + one + ")", () -> x.change(one), () -> plain.change(one));
                case 2: return same("walk(" + one + "," + way + ")", () -> x.walk(one, way), () -> plain.walk(one, way));
                default: return same("undo()", () -> x.undo(), () -> plain.undo());
            }
        }
        return which < 90 ? deepQuestion() : question();
    }

    private String deepQuestion() {
        int one = holder();
        int p = pot();
        int to = place();
        int r = 1 + below(chance(70) ? 12 : 60);
        int those = (1 << plain.world.people.size()) - 1;
        int pots = 0;
        int empty = 0;
        for (int k = 0; k < plain.world.people.size(); k++) {
            if (plain.world.people.get(k).pot >= 0) {
                those &= ~(1 << k);
            } else {
                empty = k;
            }
        }
        for (int k = 0; k < plain.world.pots.size(); k++) {
            pots |= plain.world.pots.get(k).place >= 0 && chance(80) ? 1 << k : 0;
        }
        int bits = those & (chance(70) ? -1 : below(32));
        int who = empty;
        int bring = pots;
        int table = 1 + below(plain.kinds.size() - 1);
        int v = chance(60) ? 0 : below(400);
        switch (below(6)) {
            case 0: return same("far(" + one + "," + to + ")", () -> x.far(one, to), () -> plain.far(one, to));
            case 1: return same("rests(" + one + "," + to + "," + r + ")", () -> x.rests(one, to, r),
                () -> plain.rests(one, to, r));
            case 2: return same("soonest(" + one + "," + to + ")", () -> x.soonest(one, to),
                () -> plain.soonest(one, to));
            case 3: case 4: return same("chain(" + p + "," + to + "," + bits + ")", () -> x.chain(p, to, bits),
                () -> plain.chain(p, to, bits));
            default: return same("serve(" + who + "," + bring + "," + table + "," + v + ")",
                () -> x.serve(who, bring, table, v), () -> plain.serve(who, bring, table, v));
        }
    }

    // ---- calls

    private String call() {
        int which = below(100);
        if (which < 3) {
            return chance(50) ? kitchen(true) : odd();
        }
        if (which < 8) {
            return rule();
        }
        if (which < 14) {
            return dinner();
        }
        if (which < 55) {
            return act();
        }
        return which < 95 ? question() : other();
    }

    private String act() {
        int one = holder();
        int other = person();
        int p = pot();
        int w = way();
        int n = chance(85) ? below(6) : below(110) - 4;
        int v = chance(90) ? below(10) : below(20) - 4;
        switch (below(11)) {
            case 0: case 1: case 2:
                return same("take(" + other + "," + p + ")", () -> x.take(other, p), () -> plain.take(other, p));
            case 3: return same("down(" + one + ")", () -> x.down(one), () -> plain.down(one));
            case 4: case 5:
                return same("walk(" + one + "," + w + ")", () -> x.walk(one, w), () -> plain.walk(one, w));
            case 6: return same("pass(" + n + ")", () -> x.pass(n), () -> plain.pass(n));
            case 7: return same("change(" + one + ")", () -> x.change(one), () -> plain.change(one));
            case 8: return same("give(" + one + "," + other + ")", () -> x.give(one, other), () -> plain.give(one, other));
            case 9: return same("fold(" + one + "," + v + ")", () -> x.fold(one, v), () -> plain.fold(one, v));
            default: {
                int open = chance(90) ? below(2) : below(5) - 2;
                return same("door(" + w + "," + open + ")", () -> x.door(w, open), () -> plain.door(w, open));
            }
        }
    }

    private String question() {
        int one = holder();
        int p = pot();
        int from = place();
        int to = place();
        int n = chance(85) ? 1 + below(20) : below(110) - 4;
        int r = chance(90) ? 1 + below(60) : below(70) - 4;
        int v = chance(70) ? below(100) : below(1200) - 100;
        int those = chance(92) ? below(1 << Math.max(1, plain.world.people.size())) : random.nextInt();
        int pots = chance(92) ? below(1 << Math.max(1, plain.world.pots.size())) : random.nextInt();
        switch (below(15)) {
            case 0: return same("lasts(" + one + ")", () -> x.lasts(one), () -> plain.lasts(one));
            case 1: return same("swaps(" + one + "," + n + ")", () -> x.swaps(one, n), () -> plain.swaps(one, n));
            case 2: return same("often(" + one + ")", () -> x.often(one), () -> plain.often(one));
            case 3: return same("layers(" + one + "," + p + "," + n + ")", () -> x.layers(one, p, n),
                () -> plain.layers(one, p, n));
            case 4: return same("hottest(" + one + "," + p + "," + n + ")", () -> x.hottest(one, p, n),
                () -> plain.hottest(one, p, n));
            case 5: return same("path(" + from + "," + to + ")", () -> x.path(from, to), () -> plain.path(from, to));
            case 6: return same("clear(" + from + "," + to + ")", () -> x.clear(from, to), () -> plain.clear(from, to));
            case 7: return same("far(" + one + "," + to + ")", () -> x.far(one, to), () -> plain.far(one, to));
            case 8: return same("rests(" + one + "," + to + "," + r + ")", () -> x.rests(one, to, r),
                () -> plain.rests(one, to, r));
            case 9: return same("soonest(" + one + "," + to + ")", () -> x.soonest(one, to),
                () -> plain.soonest(one, to));
            case 10: return same("chain(" + p + "," + to + "," + those + ")", () -> x.chain(p, to, those),
                () -> plain.chain(p, to, those));
            case 11: {
                int who = person();
                return same("serve(" + who + "," + pots + "," + to + "," + v + ")", () -> x.serve(who, pots, to, v),
                    () -> plain.serve(who, pots, to, v));
            }
            case 12: return same("fits(" + from + "," + to + ")", () -> x.fits(from, to), () -> plain.fits(from, to));
            case 13: {
                int seed = random.nextInt();
                int draws = chance(90) ? 1 + below(50) : below(60) - 4;
                return same("dinners(" + one + "," + to + "," + seed + "," + draws + ")",
                    () -> x.dinners(one, to, seed, draws), () -> plain.dinners(one, to, seed, draws));
            }
            default: {
                int seconds = chance(90) ? below(12) : below(320) - 4;
                return same("mark(" + from + "," + seconds + ")", () -> x.mark(from, seconds),
                    () -> plain.mark(from, seconds));
            }
        }
    }

    private String other() {
        int i = chance(90) ? below(3) : below(9) - 3;
        int p = pot();
        int v = chance(80) ? below(1000) : below(1400) - 200;
        int kind = chance(90) ? below(4) : below(7) - 2;
        int n = below(9) - 2;
        int f = chance(50) ? below(300) : random.nextInt();
        int step = chance(50) ? below(300) : random.nextInt();
        switch (below(6)) {
            case 0: return same("keep(" + i + ")", () -> x.keep(i) ? 1 : 0, () -> plain.keep(i) ? 1 : 0);
            case 1: return same("again(" + i + ")", () -> x.again(i) ? 1 : 0, () -> plain.again(i) ? 1 : 0);
            case 2: return same("undo()", () -> x.undo(), () -> plain.undo());
            case 3: return same("heat(" + p + "," + v + ")", () -> x.heat(p, v), () -> plain.heat(p, v));
            case 4: return same("sheet(" + kind + "," + n + "," + f + "," + step + ")",
                () -> x.sheet(kind, n, f, step), () -> plain.sheet(kind, n, f, step));
            default: return chance(30) ? same("wipe()", () -> x.wipe(), () -> plain.wipe())
                : same("undo()", () -> x.undo(), () -> plain.undo());
        }
    }
}
