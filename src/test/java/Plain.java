import java.util.ArrayDeque;
import java.util.ArrayList;
import java.util.Arrays;
import java.util.List;
import java.util.NoSuchElementException;
import java.util.regex.Matcher;
import java.util.regex.Pattern;

/**
 * The document once more, in its plainest form and by other means than the class: texts by regular expressions,
 * questions by trying all there is on copies of the whole kitchen. For comparison alone.
 */
final class Plain {
    static final class Way {
        int one;
        int other;
        int steps;
        boolean door;
    }

    static final class Pot implements Cloneable {
        int heat;
        int cools;
        int place = -1;
        boolean dropped;

        Pot copy() {
            Pot p = new Pot();
            p.heat = heat;
            p.cools = cools;
            p.place = place;
            p.dropped = dropped;
            return p;
        }
    }

    static final class Person {
        int bears;
        int at;
        int[] warm = new int[2];
        int hand;
        int fold;
        int pot = -1;
        int burnt;

        Person copy() {
            Person p = new Person();
            p.bears = bears;
            p.at = at;
            p.warm = warm.clone();
            p.hand = hand;
            p.fold = fold;
            p.pot = pot;
            p.burnt = burnt;
            return p;
        }
    }

    /** All that changes. */
    final class World {
        List<Pot> pots = new ArrayList<>();
        List<Person> people = new ArrayList<>();
        boolean[] open = new boolean[14];
        int now;
        int burntBits;
        int droppedBits;
        int burnings;

        World copy() {
            World w = new World();
            for (Pot p : pots) {
                w.pots.add(p.copy());
            }
            for (Person p : people) {
                w.people.add(p.copy());
            }
            w.open = open.clone();
            w.now = now;
            return w;
        }

        int through(int who) {
            Person one = people.get(who);
            if (one.pot < 0) {
                return 0;
            }
            Pot pot = pots.get(one.pot);
            int value = rule.isEmpty() ? pot.heat / (10 * one.fold + 1) : evaluate(rule, this, who);
            return value < 0 ? 0 : value > 999 ? 999 : value;
        }

        void second() {
            boolean[][] warmed = new boolean[people.size()][2];
            for (int i = 0; i < people.size(); i++) {
                Person one = people.get(i);
                if (one.pot >= 0) {
                    warmed[i][one.hand] = true;
                    one.warm[one.hand] = Math.min(9999, one.warm[one.hand] + through(i));
                    if (one.warm[one.hand] > one.bears) {
                        one.burnt++;
                        burnings++;
                        burntBits |= 1 << i;
                        droppedBits |= 1 << one.pot;
                        pots.get(one.pot).dropped = true;
                        pots.get(one.pot).heat = 0;
                        one.pot = -1;
                        warmed[i][one.hand] = false;
                    }
                }
            }
            for (int i = 0; i < people.size(); i++) {
                for (int hand = 0; hand < 2; hand++) {
                    if (!warmed[i][hand]) {
                        people.get(i).warm[hand] -= people.get(i).warm[hand] / 4;
                    }
                }
            }
            for (Pot pot : pots) {
                if (!pot.dropped) {
                    pot.heat = pot.heat > pot.cools ? pot.heat - pot.cools : 0;
                }
            }
            now++;
        }

        /** Seconds go by: how many of them, till one was burnt. */
        int carry(int who, int seconds) {
            for (int k = 0; k < seconds; k++) {
                int before = people.get(who).burnt;
                second();
                if (people.get(who).burnt > before) {
                    return k;
                }
            }
            return seconds;
        }

        /** One holds just this pot, and nobody else does. */
        void putInHands(int who, int pot) {
            for (Person p : people) {
                if (p.pot == pot) {
                    p.pot = -1;
                }
            }
            pots.get(pot).place = -1;
            people.get(who).pot = pot;
        }

        int holder(int pot) {
            for (int i = 0; i < people.size(); i++) {
                if (people.get(i).pot == pot) {
                    return i;
                }
            }
            return -1;
        }

        int openBits() {
            int bits = 0;
            for (int w = 0; w < 14; w++) {
                bits |= open[w] ? 1 << w : 0;
            }
            return bits;
        }
    }

    StringBuilder text = new StringBuilder();
    String rule = "";
    List<Integer> kinds = new ArrayList<>();
    List<Way> ways = new ArrayList<>();
    World world = new World();
    ArrayDeque<World> undo = new ArrayDeque<>();
    World[] kept = new World[3];
    List<int[]> marks = new ArrayList<>();
    List<Long> row = new ArrayList<>();

    private void tell(long... numbers) {
        row = new ArrayList<>();
        for (long n : numbers) {
            row.add(n);
        }
    }

    private void tellAll(List<Integer> numbers) {
        row = new ArrayList<>();
        for (int n : numbers) {
            row.add((long) n);
        }
    }

    // ---- texts

    int sign(int v) {
        if (text.length() > 76) {
            return -1;
        }
        text.append((char) (v >>> 24)).append((char) (v >>> 16 & 255)).append((char) (v >>> 8 & 255)).append((char) (v & 255));
        return text.length();
    }

    boolean end(int n) {
        if (n < 0 || n > text.length()) {
            return false;
        }
        text.setLength(n);
        return true;
    }

    private String cut() {
        String all = text.toString();
        text.setLength(0);
        return all;
    }

    /** What a line may be, once some places, ways, pots and people are there. */
    private static Pattern line(List<Integer> kinds, int ways, int pots, int people) {
        String never = "\uffff";
        StringBuilder all = new StringBuilder(never);
        StringBuilder solid = new StringBuilder(never);
        StringBuilder pairs = new StringBuilder(never);
        for (int p = 0; p < kinds.size(); p++) {
            char letter = (char) ('a' + p);
            all.append(letter);
            if (kinds.get(p) != 0) {
                solid.append(letter);
            }
            StringBuilder others = new StringBuilder(never);
            for (int q = 0; q < kinds.size(); q++) {
                if (q != p) {
                    others.append((char) ('a' + q));
                }
            }
            pairs.append("|").append(letter).append("[").append(others).append("]");
        }
        StringBuilder pattern = new StringBuilder(never);
        if (kinds.size() < 10) {
            pattern.append("|[fbt]");
        }
        if (ways < 14) {
            pattern.append("|w(?:").append(pairs).append(")[1-9]!?");
        }
        if (pots < 5) {
            pattern.append("|p[0-9]{1,3}-[0-9]@[").append(solid).append("]");
        }
        if (people < 5) {
            pattern.append("|h(?:0[1-9]|[1-9][0-9]?)@[").append(all).append("]");
        }
        return Pattern.compile(pattern.toString(), Pattern.DOTALL);
    }

    private static boolean viable(Pattern pattern, String prefix) {
        if (prefix.isEmpty()) {
            return true;
        }
        Matcher matcher = pattern.matcher(prefix);
        return matcher.matches() || matcher.hitEnd();
    }

    int kitchen() {
        String all = cut();
        if (all.isEmpty()) {
            return 0;
        }
        String told = all.length() > 76 ? all.substring(0, 76) : all;
        List<Integer> newKinds = new ArrayList<>(kinds);
        List<Way> newWays = new ArrayList<>(ways);
        World newWorld = world.copy();
        int start = 0;
        int lines = 0;
        while (start <= told.length()) {
            Pattern pattern = line(newKinds, newWays.size(), newWorld.pots.size(), newWorld.people.size());
            int stop = told.indexOf(';', start);
            stop = stop < 0 ? told.length() : stop;
            for (int p = start; p < stop; p++) {
                if (!viable(pattern, told.substring(start, p + 1))) {
                    return -1 - zeroOr(told, start, p);
                }
            }
            String line = told.substring(start, stop);
            if (!pattern.matcher(line).matches()) {
                boolean cut = stop == told.length() && all.length() > 76 && !line.matches("h00");
                return -1 - (cut ? stop : zeroOr(told, start, stop));
            }
            add(line, newKinds, newWays, newWorld);
            lines++;
            start = stop + 1;
        }
        if (all.length() > 76) {
            return -1 - 76;
        }
        kinds = newKinds;
        ways = newWays;
        world = newWorld;
        undo.clear();
        kept = new World[3];
        return lines;
    }

    /** A fault just behind a line's h and 0 is one of its last digit. */
    private static int zeroOr(String told, int start, int p) {
        return told.substring(start, p).equals("h0") && !(p < told.length() && told.charAt(p) == '0') ? p - 1 : p;
    }

    private static void add(String line, List<Integer> kinds, List<Way> ways, World world) {
        String[] parts = line.substring(1).split("[-@]");
        switch (line.charAt(0)) {
            case 'f': kinds.add(0); break;
            case 'b': kinds.add(1); break;
            case 't': kinds.add(2); break;
            case 'w': {
                Way way = new Way();
                way.one = line.charAt(1) - 'a';
                way.other = line.charAt(2) - 'a';
                way.steps = line.charAt(3) - '0';
                way.door = line.endsWith("!");
                ways.add(way);
                break;
            }
            case 'p': {
                Pot pot = new Pot();
                pot.heat = Integer.parseInt(parts[0]);
                pot.cools = Integer.parseInt(parts[1]);
                pot.place = parts[2].charAt(0) - 'a';
                world.pots.add(pot);
                break;
            }
            default: {
                Person one = new Person();
                one.bears = Integer.parseInt(parts[0]);
                one.at = parts[1].charAt(0) - 'a';
                world.people.add(one);
            }
        }
    }

    int rule() {
        String all = cut();
        String told = all.length() > 40 ? all.substring(0, 40) : all;
        if (told.isEmpty()) {
            rule = "";
            return 0;
        }
        ArrayDeque<Boolean> compared = new ArrayDeque<>();
        compared.push(false);
        boolean wanted = true;
        int digits = 0;
        for (int p = 0; p < told.length(); p++) {
            char c = told.charAt(p);
            boolean digit = c >= '0' && c <= '9';
            if (wanted) {
                if (c == '(' && compared.size() <= 4) {
                    compared.push(false);
                } else if (digit || "hfnbsipr".indexOf(c) >= 0) {
                    wanted = false;
                    digits = digit ? 1 : 3;
                } else if (c != '-') {
                    return -1 - p;
                }
            } else if (digit && digits < 3) {
                digits++;
            } else if ("+-*/".indexOf(c) >= 0) {
                wanted = true;
            } else if ("<>=".indexOf(c) >= 0 && !compared.peek()) {
                compared.pop();
                compared.push(true);
                wanted = true;
            } else if (c == ')' && compared.size() > 1) {
                compared.pop();
                digits = 3;
            } else {
                return -1 - p;
            }
        }
        if (wanted || compared.size() > 1 || all.length() > 40) {
            return -1 - told.length();
        }
        rule = told;
        return 0;
    }

    /** The value of a text, by the operator that binds least and stands last. */
    private static int evaluate(String s, World w, int who) {
        for (String signs : new String[] {"<>=", "+-", "*/"}) {
            int depth = 0;
            for (int p = s.length() - 1; p > 0; p--) {
                char c = s.charAt(p);
                depth += c == ')' ? 1 : c == '(' ? -1 : 0;
                boolean behindThing = Character.isLetterOrDigit(s.charAt(p - 1)) || s.charAt(p - 1) == ')';
                if (depth == 0 && behindThing && signs.indexOf(c) >= 0) {
                    return combine(c, evaluate(s.substring(0, p), w, who), evaluate(s.substring(p + 1), w, who));
                }
            }
        }
        char first = s.charAt(0);
        if (first == '-') {
            return -evaluate(s.substring(1), w, who);
        }
        if (first == '(') {
            return evaluate(s.substring(1, s.length() - 1), w, who);
        }
        Person one = w.people.get(who);
        switch (first) {
            case 'h': return w.pots.get(one.pot).heat;
            case 'f': return one.fold;
            case 'n': return one.warm[one.hand];
            case 'b': return one.bears;
            case 's': return w.now;
            case 'i': return who;
            case 'p': return one.pot;
            case 'r': return one.hand;
            default: return Integer.parseInt(s);
        }
    }

    private static int combine(char c, int a, int b) {
        switch (c) {
            case '<': return a < b ? 1 : 0;
            case '>': return a > b ? 1 : 0;
            case '=': return a == b ? 1 : 0;
            case '+': return a + b;
            case '-': return a - b;
            case '*': return a * b;
            default: return b == 0 ? 0 : (int) ((long) a / b);
        }
    }

    // ---- what is

    private static void some(boolean there) {
        if (!there) {
            throw new NoSuchElementException();
        }
    }

    private static boolean in(int i, List<?> list) {
        return i >= 0 && i < list.size();
    }

    int place(int p, int what) {
        some(in(p, kinds) && what >= 0 && what <= 3);
        int bits = 0;
        if (what == 0) {
            return kinds.get(p);
        }
        int size = what == 1 ? world.pots.size() : what == 2 ? world.people.size() : ways.size();
        for (int i = 0; i < size; i++) {
            boolean there = what == 1 ? world.pots.get(i).place == p
                : what == 2 ? world.people.get(i).at == p : ways.get(i).one == p || ways.get(i).other == p;
            bits += there ? 1 << i : 0;
        }
        return bits;
    }

    int way(int w, int what) {
        some(in(w, ways) && what >= 0 && what <= 3);
        Way way = ways.get(w);
        return new int[] {way.one, way.other, way.steps, !way.door ? 0 : world.open[w] ? 2 : 1}[what];
    }

    int pot(int p, int what) {
        some(in(p, world.pots) && what >= 0 && what <= 4);
        Pot pot = world.pots.get(p);
        return new int[] {pot.heat, pot.cools, pot.place, world.holder(p), pot.dropped ? 1 : 0}[what];
    }

    int person(int p, int what) {
        some(in(p, world.people) && what >= 0 && what <= 8);
        Person one = world.people.get(p);
        return new int[] {one.bears, one.at, one.warm[0], one.warm[1], one.hand, one.fold, one.pot, one.burnt,
            world.through(p)}[what];
    }

    int heat(int p, int v) {
        if (!in(p, world.pots) || world.pots.get(p).dropped || v < 0 || v > 999) {
            return -1;
        }
        int was = world.pots.get(p).heat;
        world.pots.get(p).heat = v;
        return was;
    }

    int sheet(int kind, int n, int f, int step) {
        if (kind < 0 || kind > 3 || n > 5) {
            return -1;
        }
        if (kind != 3 && n < 0) {
            return -2;
        }
        int sum = 0;
        int entry = f;
        for (int p = 0; p < world.pots.size(); p++) {
            int v = kind == 0 ? (byte) entry : kind == 1 ? (short) entry : entry;
            v = kind == 3 || p >= n ? 0 : Math.min(999, Math.max(0, v));
            if (!world.pots.get(p).dropped) {
                world.pots.get(p).heat = v;
                sum += v;
            }
            entry += step;
        }
        return kind == 3 ? -3 : sum;
    }

    // ---- acts

    private int settle(World before, int answer) {
        if (answer >= 0) {
            undo.push(before);
            if (undo.size() > 15) {
                undo.removeLast();
            }
        }
        return answer;
    }

    int take(int person, int pot) {
        return settle(world.copy(), doTake(world, person, pot));
    }

    private int doTake(World w, int person, int pot) {
        if (!in(person, w.people)) {
            return -1;
        }
        Person one = w.people.get(person);
        if (one.pot >= 0) {
            return -2;
        }
        if (!in(pot, w.pots) || w.pots.get(pot).place != one.at) {
            return -3;
        }
        w.pots.get(pot).place = -1;
        one.pot = pot;
        return w.pots.get(pot).heat;
    }

    int down(int person) {
        return settle(world.copy(), doDown(world, person));
    }

    private int doDown(World w, int person) {
        if (!in(person, w.people)) {
            return -1;
        }
        Person one = w.people.get(person);
        if (one.pot < 0) {
            return -2;
        }
        if (kinds.get(one.at) == 0) {
            return -3;
        }
        int pot = one.pot;
        w.pots.get(pot).place = one.at;
        one.pot = -1;
        return pot;
    }

    int walk(int person, int way) {
        world.burnings = 0;
        int answer = settle(world.copy(), doWalk(world, person, way));
        if (answer >= 0) {
            Person one = world.people.get(person);
            tell(world.burnings, one.warm[one.hand]);
        }
        return answer;
    }

    private int doWalk(World w, int person, int way) {
        if (!in(person, w.people)) {
            return -1;
        }
        Person one = w.people.get(person);
        if (!in(way, ways) || ways.get(way).one != one.at && ways.get(way).other != one.at) {
            return -2;
        }
        Way by = ways.get(way);
        if (by.door && !w.open[way]) {
            return -3;
        }
        int goal = by.one + by.other - one.at;
        for (int k = 0; k < by.steps; k++) {
            w.second();
        }
        one.at = goal;
        return by.steps;
    }

    int pass(int n) {
        if (n < 0 || n > 99) {
            return -1;
        }
        World before = world.copy();
        world.burnings = 0;
        world.burntBits = 0;
        world.droppedBits = 0;
        for (int k = 0; k < n; k++) {
            world.second();
        }
        tell(world.burntBits, world.droppedBits);
        if (n > 0) {
            settle(before, 0);
        }
        return world.burnings;
    }

    int change(int person) {
        return settle(world.copy(), doChange(world, person));
    }

    private int doChange(World w, int person) {
        if (!in(person, w.people)) {
            return -1;
        }
        return w.people.get(person).hand ^= 1;
    }

    int give(int person, int other) {
        return settle(world.copy(), doGive(world, person, other));
    }

    private int doGive(World w, int person, int other) {
        if (!in(person, w.people) || !in(other, w.people) || person == other) {
            return -1;
        }
        Person one = w.people.get(person);
        Person two = w.people.get(other);
        if (one.pot < 0 || two.pot >= 0) {
            return -2;
        }
        if (one.at != two.at) {
            return -3;
        }
        two.pot = one.pot;
        one.pot = -1;
        return two.pot;
    }

    int fold(int person, int v) {
        if (!in(person, world.people) || v < 0 || v > 9) {
            return -1;
        }
        World before = world.copy();
        int was = world.people.get(person).fold;
        world.people.get(person).fold = v;
        settle(before, 0);
        return was;
    }

    int door(int way, int v) {
        return settle(world.copy(), doDoor(world, way, v));
    }

    private int doDoor(World w, int way, int v) {
        if (!in(way, ways) || !ways.get(way).door || v < 0 || v > 1) {
            return -1;
        }
        w.open[way] = v == 1;
        return Integer.bitCount(w.openBits());
    }

    private static final Pattern ACT = Pattern.compile("[tg][0-9][0-9]|[dc][0-9]|w[0-9][0-9]{1,2}|[so][0-9]{1,2}");

    int dinner() {
        String all = cut();
        String told = all.length() > 60 ? all.substring(0, 60) : all;
        int start = 0;
        while (!told.isEmpty() && start <= told.length()) {
            int stop = told.indexOf(';', start);
            stop = stop < 0 ? told.length() : stop;
            for (int p = start; p < stop; p++) {
                if (!viable(ACT, told.substring(start, p + 1))) {
                    return -1 - p;
                }
            }
            if (!ACT.matcher(told.substring(start, stop)).matches()) {
                return -1 - stop;
            }
            start = stop + 1;
        }
        if (all.length() > 60) {
            return -1 - 60;
        }
        World before = world.copy();
        world.burnings = 0;
        int done = 0;
        int refused = 0;
        String[] acts = told.isEmpty() ? new String[0] : told.split(";");
        for (String act : acts) {
            if (doAct(act) < 0) {
                refused = 1;
                break;
            }
            done++;
        }
        if (done > 0) {
            settle(before, 0);
        }
        tell(refused, world.burnings);
        return done;
    }

    private int doAct(String act) {
        int first = act.charAt(1) - '0';
        int rest = act.length() > 2 ? Integer.parseInt(act.substring(2)) : -1;
        int whole = Integer.parseInt(act.substring(1));
        switch (act.charAt(0)) {
            case 't': return doTake(world, first, rest);
            case 'd': return doDown(world, first);
            case 'w': return doWalk(world, first, rest);
            case 'c': return doChange(world, first);
            case 'g': return doGive(world, first, rest);
            case 'o': return doDoor(world, whole, 1);
            default:
                for (int k = 0; k < whole; k++) {
                    world.second();
                }
                return 0;
        }
    }

    int undo() {
        if (undo.isEmpty()) {
            return -1;
        }
        world = undo.pop();
        return undo.size();
    }

    // ---- how long

    private boolean holds(int person) {
        return in(person, world.people) && world.people.get(person).pot >= 0;
    }

    int lasts(int person) {
        if (!holds(person)) {
            return -1;
        }
        World w = world.copy();
        Person one = w.people.get(person);
        Pot pot = w.pots.get(one.pot);
        for (int k = 1; k <= 300; k++) {
            int heat = pot.heat;
            if (w.carry(person, 1) == 0) {
                tell(heat);
                return k;
            }
        }
        tell(one.warm[one.hand]);
        return -2;
    }

    int swaps(int person, int n) {
        if (!holds(person) || n < 1 || n > 99) {
            return -1;
        }
        World w = world.copy();
        int changed = 0;
        for (int k = 1; k <= 300; k++) {
            if (k % n == 0) {
                w.people.get(person).hand ^= 1;
                changed++;
            }
            if (w.carry(person, 1) == 0) {
                tell(changed);
                return k;
            }
        }
        tell(changed);
        return -2;
    }

    int often(int person) {
        if (!holds(person)) {
            return -1;
        }
        int best = 0;
        int longest = 0;
        for (int n = 1; n <= 99; n++) {
            int after = swaps(person, n);
            after = after == -2 ? 1000 : after;
            if (after > longest || after == 1000) {
                longest = after;
                best = n;
            }
        }
        tell(longest == 1000 ? -1 : longest);
        return best;
    }

    int layers(int person, int pot, int n) {
        if (!mayHold(person, pot, n)) {
            return -1;
        }
        for (int v = 0; v <= 9; v++) {
            World w = world.copy();
            w.putInHands(person, pot);
            Person one = w.people.get(person);
            one.fold = v;
            if (w.carry(person, n) == n) {
                tell(one.warm[one.hand]);
                return v;
            }
        }
        return -2;
    }

    int hottest(int person, int pot, int n) {
        if (!mayHold(person, pot, n)) {
            return -1;
        }
        for (int v = 0; v <= 999; v++) {
            World w = world.copy();
            w.putInHands(person, pot);
            w.pots.get(pot).heat = v;
            if (w.carry(person, n) < n) {
                return v == 0 ? -2 : v - 1;
            }
        }
        return 999;
    }

    private boolean mayHold(int person, int pot, int n) {
        return in(person, world.people) && in(pot, world.pots) && !world.pots.get(pot).dropped && n >= 1 && n <= 99;
    }

    // ---- ways

    /** All ways from a place to another one, none of whose places comes twice: rows of ways. */
    private void trails(int here, int to, boolean all, List<Integer> places, List<Integer> by, List<List<Integer>> found,
            List<List<Integer>> foundBy) {
        places.add(here);
        if (here == to) {
            found.add(new ArrayList<>(places));
            foundBy.add(new ArrayList<>(by));
        } else {
            for (int w = 0; w < ways.size(); w++) {
                Way way = ways.get(w);
                boolean passable = all || !way.door || world.open[w];
                int next = way.one == here ? way.other : way.other == here ? way.one : -1;
                if (passable && next >= 0 && !places.contains(next)) {
                    by.add(w);
                    trails(next, to, all, places, by, found, foundBy);
                    by.remove(by.size() - 1);
                }
            }
        }
        places.remove(places.size() - 1);
    }

    private int steps(List<Integer> by) {
        int sum = 0;
        for (int w : by) {
            sum += ways.get(w).steps;
        }
        return sum;
    }

    static int compare(List<Integer> a, List<Integer> b) {
        for (int i = 0; i < a.size() && i < b.size(); i++) {
            if (!a.get(i).equals(b.get(i))) {
                return a.get(i) - b.get(i);
            }
        }
        return a.size() - b.size();
    }

    /** Places of the path that path() tells, and the ways; none if there is no path. */
    private List<Integer> pathPlaces;
    private List<Integer> pathBy;

    private boolean findPath(int from, int to) {
        List<List<Integer>> found = new ArrayList<>();
        List<List<Integer>> foundBy = new ArrayList<>();
        trails(from, to, false, new ArrayList<>(), new ArrayList<>(), found, foundBy);
        pathPlaces = null;
        for (int i = 0; i < found.size(); i++) {
            int fewer = pathPlaces == null ? -1 : steps(foundBy.get(i)) - steps(pathBy);
            if (fewer < 0 || fewer == 0 && compare(found.get(i), pathPlaces) < 0) {
                pathPlaces = found.get(i);
                pathBy = foundBy.get(i);
            }
        }
        return pathPlaces != null;
    }

    int path(int from, int to) {
        if (!in(from, kinds) || !in(to, kinds)) {
            return -1;
        }
        if (!findPath(from, to)) {
            return -2;
        }
        tellAll(pathPlaces);
        return steps(pathBy);
    }

    int clear(int from, int to) {
        if (!in(from, kinds) || !in(to, kinds)) {
            return -1;
        }
        List<List<Integer>> foundBy = new ArrayList<>();
        trails(from, to, true, new ArrayList<>(), new ArrayList<>(), new ArrayList<>(), foundBy);
        if (foundBy.isEmpty()) {
            return -2;
        }
        int least = Integer.MAX_VALUE;
        for (List<Integer> by : foundBy) {
            least = Math.min(least, steps(by));
        }
        int fewest = 99;
        int bits = 0;
        for (List<Integer> by : foundBy) {
            int shut = 0;
            for (int w : by) {
                shut |= ways.get(w).door && !world.open[w] ? 1 << w : 0;
            }
            int n = Integer.bitCount(shut);
            if (steps(by) == least && (n < fewest || n == fewest && shut < bits)) {
                fewest = n;
                bits = shut;
            }
        }
        tell(bits, least);
        return fewest;
    }

    int far(int person, int to) {
        if (!holds(person) || !in(to, kinds)) {
            return -1;
        }
        if (!findPath(world.people.get(person).at, to)) {
            return -2;
        }
        World w = world.copy();
        int seconds = 0;
        int reached = 0;
        for (int by : pathBy) {
            int carried = w.carry(person, ways.get(by).steps);
            seconds += carried;
            if (carried < ways.get(by).steps) {
                tell(0, seconds);
                return reached;
            }
            reached++;
        }
        tell(1, seconds);
        return reached;
    }

    /** The places where it is set down, by the fewest and least; null if by none. */
    private List<Integer> restPlaces(int person, int r) {
        int inner = Math.max(0, pathPlaces.size() - 2);
        List<Integer> best = null;
        for (int set = 0; set < 1 << inner; set++) {
            List<Integer> chosen = new ArrayList<>();
            boolean solid = true;
            for (int i = 0; i < inner; i++) {
                if ((set >> i & 1) != 0) {
                    chosen.add(pathPlaces.get(i + 1));
                    solid &= kinds.get(pathPlaces.get(i + 1)) != 0;
                }
            }
            boolean better = best == null || chosen.size() < best.size()
                || chosen.size() == best.size() && compare(chosen, best) < 0;
            if (solid && better && goesWith(person, r, set)) {
                best = chosen;
            }
        }
        return best;
    }

    private boolean goesWith(int person, int r, int set) {
        World w = world.copy();
        Person one = w.people.get(person);
        for (int i = 0; i < pathBy.size(); i++) {
            int steps = ways.get(pathBy.get(i)).steps;
            if (w.carry(person, steps) < steps) {
                return false;
            }
            if ((set >> i & 1) != 0) {
                int pot = one.pot;
                one.pot = -1;
                for (int k = 0; k < r; k++) {
                    w.second();
                }
                one.pot = pot;
            }
        }
        return true;
    }

    int rests(int person, int to, int r) {
        if (!holds(person) || !in(to, kinds) || r < 1 || r > 60) {
            return -1;
        }
        if (!findPath(world.people.get(person).at, to)) {
            return -3;
        }
        List<Integer> best = restPlaces(person, r);
        if (best == null) {
            return -2;
        }
        tellAll(best);
        return best.size();
    }

    int soonest(int person, int to) {
        if (!holds(person) || !in(to, kinds)) {
            return -1;
        }
        if (!findPath(world.people.get(person).at, to)) {
            return -3;
        }
        int seconds = Integer.MAX_VALUE;
        int bestRest = 0;
        int times = 0;
        for (int r = 1; r <= 60; r++) {
            List<Integer> best = restPlaces(person, r);
            if (best != null && steps(pathBy) + r * best.size() < seconds) {
                seconds = steps(pathBy) + r * best.size();
                bestRest = best.isEmpty() ? 0 : r;
                times = best.size();
            }
        }
        if (seconds == Integer.MAX_VALUE) {
            return -2;
        }
        tell(bestRest, times);
        return seconds;
    }

    private List<Integer> bestLine;

    int chain(int pot, int to, int those) {
        if (!in(pot, world.pots) || world.pots.get(pot).place < 0 || !in(to, kinds)) {
            return -1;
        }
        for (int p = 0; p < 32; p++) {
            if ((those >> p & 1) != 0 && (!in(p, world.people) || world.people.get(p).pot >= 0)) {
                return -1;
            }
        }
        if (!findPath(world.pots.get(pot).place, to)) {
            return -3;
        }
        bestLine = null;
        tryLine(pot, those, new ArrayList<>());
        if (bestLine == null) {
            return -2;
        }
        tellAll(bestLine);
        return (int) bestLine.stream().distinct().count();
    }

    /** All rows of people in which each carries one piece. */
    private void tryLine(int pot, int those, List<Integer> line) {
        if (line.size() == pathBy.size()) {
            long fewest = bestLine == null ? 99 : bestLine.stream().distinct().count();
            long these = line.stream().distinct().count();
            if (these < fewest || these == fewest && compare(line, bestLine) < 0) {
                bestLine = new ArrayList<>(line);
            }
            return;
        }
        for (int p = 0; p < world.people.size(); p++) {
            boolean goesOn = !line.isEmpty() && line.get(line.size() - 1) == p;
            if ((those >> p & 1) != 0 && (goesOn || !line.contains(p))) {
                line.add(p);
                if (pieceHolds(pot, p, line.indexOf(p), line.size())) {
                    tryLine(pot, those, line);
                }
                line.remove(line.size() - 1);
            }
        }
    }

    private boolean pieceHolds(int pot, int person, int start, int end) {
        World w = world.copy();
        int elapsed = steps(pathBy.subList(0, start));
        for (int k = 0; k < elapsed; k++) {
            w.pots.get(pot).heat = Math.max(0, w.pots.get(pot).heat - w.pots.get(pot).cools);
        }
        w.now += elapsed;
        w.putInHands(person, pot);
        int seconds = steps(pathBy.subList(start, end));
        return w.carry(person, seconds) == seconds;
    }

    private List<Integer> bestOrder;
    private int bestSeconds;
    private int bestHeat;

    int serve(int person, int those, int to, int v) {
        if (!in(person, world.people) || world.people.get(person).pot >= 0 || those == 0) {
            return -1;
        }
        for (int p = 0; p < 32; p++) {
            if ((those >> p & 1) != 0 && (!in(p, world.pots) || world.pots.get(p).place < 0)) {
                return -1;
            }
        }
        if (!in(to, kinds) || kinds.get(to) != 2 || v < 0 || v > 999) {
            return -1;
        }
        bestOrder = null;
        tryOrder(person, those, to, v, new ArrayList<>());
        if (bestOrder == null) {
            return -2;
        }
        List<Integer> told = new ArrayList<>(bestOrder);
        told.add(bestHeat);
        tellAll(told);
        return bestSeconds;
    }

    private void tryOrder(int person, int those, int to, int v, List<Integer> order) {
        if (order.size() == Integer.bitCount(those)) {
            serveSo(person, to, v, order);
        }
        for (int p = 0; p < world.pots.size(); p++) {
            if ((those >> p & 1) != 0 && !order.contains(p)) {
                order.add(p);
                tryOrder(person, those, to, v, order);
                order.remove(order.size() - 1);
            }
        }
    }

    private void serveSo(int person, int to, int v, List<Integer> order) {
        World w = world.copy();
        Person one = w.people.get(person);
        for (int p : order) {
            for (int goal : new int[] {w.pots.get(p).place, to}) {
                if (!findPath(one.at, goal)) {
                    return;
                }
                if (w.carry(person, steps(pathBy)) < steps(pathBy)) {
                    return;
                }
                one.at = goal;
                if (one.pot < 0) {
                    doTake(w, person, p);
                } else {
                    doDown(w, person);
                }
            }
            if (one.pot >= 0) {
                doDown(w, person);
            }
        }
        int least = 999;
        for (int p : order) {
            least = Math.min(least, w.pots.get(p).heat);
        }
        int seconds = w.now - world.now;
        if (seconds > 300 || least < v) {
            return;
        }
        if (bestOrder == null || seconds < bestSeconds || seconds == bestSeconds && compare(order, bestOrder) < 0) {
            bestOrder = new ArrayList<>(order);
            bestSeconds = seconds;
            bestHeat = least;
        }
    }

    // ---- marks

    int mark(int place, int n) {
        if (!in(place, kinds) || n < 0 || n > 300 || marks.size() == 8) {
            return -1;
        }
        marks.add(new int[] {place, n});
        return marks.size();
    }

    int wipe() {
        int were = marks.size();
        marks.clear();
        return were;
    }

    int fits(int from, int to) {
        if (!in(from, kinds) || !in(to, kinds) || from == to) {
            return -1;
        }
        List<List<Integer>> found = new ArrayList<>();
        List<List<Integer>> foundBy = new ArrayList<>();
        trails(from, to, false, new ArrayList<>(), new ArrayList<>(), found, foundBy);
        int n = 0;
        List<Integer> least = null;
        for (int i = 0; i < found.size(); i++) {
            boolean fit = true;
            for (int[] mark : marks) {
                int at = found.get(i).indexOf(mark[0]);
                fit &= at >= 0 && steps(foundBy.get(i).subList(0, at)) == mark[1];
            }
            if (fit) {
                n++;
                least = least == null || compare(found.get(i), least) < 0 ? found.get(i) : least;
            }
        }
        tellAll(least == null ? new ArrayList<>() : least);
        return n;
    }

    // ---- dinners

    int dinners(int person, int to, int seed, int n) {
        if (!holds(person) || !in(to, kinds) || n < 1 || n > 50) {
            return -1;
        }
        if (!findPath(world.people.get(person).at, to)) {
            return -2;
        }
        int r = seed;
        int good = 0;
        int greatest = -1;
        int least = -1;
        for (int k = 0; k < n; k++) {
            r = (int) (r * 1103515245L + 12345L);
            long unsigned = r & 0xffffffffL;
            World w = world.copy();
            Pot pot = w.pots.get(w.people.get(person).pot);
            pot.heat = (int) Math.min(999, pot.heat + unsigned / 65536 % 200);
            int heat = pot.heat;
            if (w.carry(person, steps(pathBy)) == steps(pathBy)) {
                good++;
                greatest = Math.max(greatest, heat);
            } else {
                least = least < 0 ? heat : Math.min(least, heat);
            }
        }
        tell(greatest, least);
        return good;
    }

    // ---- kept

    boolean keep(int i) {
        if (i < 0 || i > 2) {
            return false;
        }
        kept[i] = world.copy();
        return true;
    }

    boolean again(int i) {
        if (i < 0 || i > 2 || kept[i] == null) {
            return false;
        }
        world = kept[i].copy();
        undo.clear();
        return true;
    }

    int count(int what) {
        int dropped = 0;
        for (int p = 0; p < world.pots.size(); p++) {
            dropped |= world.pots.get(p).dropped ? 1 << p : 0;
        }
        int[] all = {kinds.size(), ways.size(), world.pots.size(), world.people.size(), world.now, world.openBits(),
            dropped, world.people.stream().mapToInt(p -> p.burnt).sum(), undo.size(), marks.size(), row.size(),
            text.length()};
        return what >= 0 && what < all.length ? all[what] : -100;
    }

    long row(int i) {
        some(in(i, row));
        return row.get(i);
    }

    @Override
    public String toString() {
        return Arrays.toString(kinds.toArray()) + " rule " + rule;
    }
}
