import java.util.NoSuchElementException;

/** Pots that are carried through a kitchen by people with cloths, till the heat comes through. */
public final class HotThrough {
    public static final int NONE = -1;

    /** What a call answers that can be asked for, but not be done. */
    private static final int CANNOT = -2;
    private static final int NOT_THERE = -3;
    private static final int NO_COUNT = -100;

    private static final int PLACES = 10;
    private static final int WAYS = 14;
    private static final int POTS = 5;
    private static final int PEOPLE = 5;

    private static final int FLOOR = 0;
    private static final int BOARD = 1;
    private static final int TABLE = 2;

    private static final int TEXT_SIGNS = 80;
    private static final int KITCHEN_SIGNS = 76;
    private static final int RULE_SIGNS = 40;
    private static final int DINNER_SIGNS = 60;

    private static final int MOST_HEAT = 999;
    private static final int MOST_WARM = 9999;
    private static final int MOST_FOLD = 9;
    private static final int MOST_SECONDS = 300;
    private static final int MOST_HELD = 99;
    private static final int MOST_REST = 60;
    private static final int MOST_DINNERS = 50;
    private static final int DRAWN = 200;
    private static final int KEPT = 3;
    private static final int UNDONE = 15;
    private static final int MARKS = 8;
    private static final int ROW_NUMBERS = 16;

    private final Text text = new Text();
    private final Rule rule = new Rule();
    private final Kitchen kitchen = new Kitchen();
    private final State state = new State();
    private final Carrier carrier = new Carrier(kitchen, state, rule);
    private final Acts acts = new Acts(kitchen, state, rule, carrier);
    private final Paths paths = new Paths(kitchen, state);
    private final Rester rester = new Rester(kitchen, paths, carrier);
    private final Line line = new Line(kitchen, state, paths, carrier);
    private final Dishes dishes = new Dishes(kitchen, state, paths, carrier);
    private final Marks marks = new Marks(kitchen, state);
    private final State[] kept = new State[KEPT];
    private int keptBits;
    private final long[] numbers = new long[ROW_NUMBERS];
    private int told;

    public HotThrough() {
        for (int i = 0; i < KEPT; i++) {
            kept[i] = new State();
        }
    }

    // ---- the kitchen

    public int sign(int v) {
        return text.append(v);
    }

    public boolean end(int n) {
        return text.shorten(n);
    }

    public int kitchen() {
        if (text.length == 0) {
            return 0;
        }
        int lines = kitchen.read(text, state);
        if (lines > 0) {
            acts.forget();
            keptBits = 0;
        }
        return lines;
    }

    public int rule() {
        return rule.read(text);
    }

    public int place(int p, int what) throws NoSuchElementException {
        if (!kitchen.isPlace(p) || what < 0 || what > 3) {
            throw new NoSuchElementException();
        }
        switch (what) {
            case 0: return kitchen.kinds[p];
            case 1: return state.potsOn(p, kitchen.pots);
            case 2: return state.peopleAt(p, kitchen.people);
            default: return kitchen.waysAt(p);
        }
    }

    public int way(int w, int what) throws NoSuchElementException {
        if (!kitchen.isWay(w) || what < 0 || what > 3) {
            throw new NoSuchElementException();
        }
        switch (what) {
            case 0: return kitchen.ones[w];
            case 1: return kitchen.others[w];
            case 2: return kitchen.steps[w];
            default: return kitchen.hasDoor(w) ? 1 + (state.open >> w & 1) : 0;
        }
    }

    public int pot(int p, int what) throws NoSuchElementException {
        if (!kitchen.isPot(p) || what < 0 || what > 4) {
            throw new NoSuchElementException();
        }
        switch (what) {
            case 0: return state.heat[p];
            case 1: return kitchen.cools[p];
            case 2: return state.lies[p];
            case 3: return state.holder[p];
            default: return state.dropped >> p & 1;
        }
    }

    public int person(int p, int what) throws NoSuchElementException {
        if (!kitchen.isPerson(p) || what < 0 || what > 8) {
            throw new NoSuchElementException();
        }
        switch (what) {
            case 0: return kitchen.bears[p];
            case 1: return state.at[p];
            case 2: return state.warm[2 * p];
            case 3: return state.warm[2 * p + 1];
            case 4: return state.hand[p];
            case 5: return state.fold[p];
            case 6: return state.load[p];
            case 7: return state.burnt[p];
            default: return throughNext(p);
        }
    }

    private int throughNext(int p) {
        return carrier.begin(p, state.load[p]) ? rule.through(carrier) : 0;
    }

    public int heat(int p, int v) {
        if (!kitchen.isPot(p) || state.isDropped(p) || v < 0 || v > MOST_HEAT) {
            return NONE;
        }
        int was = state.heat[p];
        state.heat[p] = v;
        return was;
    }

    public int sheet(int kind, int n, int f, int step) {
        if (kind < 0 || kind > 3 || n > POTS) {
            return NONE;
        }
        if (kind < 3 && n < 0) {
            return CANNOT;
        }
        int entries = kind == 3 ? 0 : n;
        int sum = 0;
        for (int p = 0; p < kitchen.pots; p++) {
            if (!state.isDropped(p)) {
                state.heat[p] = p < entries ? entry(kind, f + p * step) : 0;
                sum += state.heat[p];
            }
        }
        return kind == 3 ? NOT_THERE : sum;
    }

    private static int entry(int kind, int value) {
        int held = kind == 0 ? (byte) value : kind == 1 ? (short) value : value;
        return Math.max(0, Math.min(MOST_HEAT, held));
    }

    // ---- acts (each of PEOPLE who is told is there, else NONE)

    public int take(int person, int pot) {
        acts.note();
        return acts.settled(acts.taken(person, pot));
    }

    public int down(int person) {
        acts.note();
        return acts.settled(acts.setDown(person));
    }

    public int walk(int person, int way) {
        acts.note();
        int answer = acts.settled(acts.walked(person, way));
        if (answer >= 0 && kitchen.isPerson(person)) {
            startRow();
            tell(acts.burnings);
            tell(state.warm[2 * person + state.hand[person]]);
        }
        return answer;
    }

    public int pass(int n) {
        acts.note();
        int answer = acts.elapsed(n);
        if (n > 0) {
            acts.settled(answer);
        }
        if (answer >= 0) {
            startRow();
            tell(acts.who);
            tell(acts.fallen);
        }
        return answer;
    }

    public int change(int person) {
        acts.note();
        return acts.settled(acts.changed(person));
    }

    public int give(int person, int other) {
        acts.note();
        return acts.settled(acts.given(person, other));
    }

    public int fold(int person, int v) {
        acts.note();
        return acts.settled(acts.folded(person, v));
    }

    public int door(int way, int v) {
        acts.note();
        return acts.settled(acts.opened(way, v));
    }

    public int dinner() {
        int planned = acts.read(text);
        if (planned < 0) {
            return planned;
        }
        acts.note();
        int done = 0;
        while (done < planned && acts.act(done) >= 0) {
            done++;
        }
        if (done > 0) {
            acts.settled(done);
        }
        startRow();
        tell(done < planned ? 1 : 0);
        tell(acts.burnings);
        return done;
    }

    public int undo() {
        return acts.back();
    }

    // ---- how long (nothing changes)

    public int lasts(int person) {
        if (!holds(person)) {
            return NONE;
        }
        carrier.begin(person, state.load[person]);
        int after = carrier.burntAfter(MOST_SECONDS, 0);
        startRow();
        tell(after == NONE ? carrier.warm : carrier.heat);
        return after == NONE ? CANNOT : after;
    }

    public int swaps(int person, int n) {
        if (!holds(person) || n < 1 || n > MOST_HELD) {
            return NONE;
        }
        carrier.begin(person, state.load[person]);
        int after = carrier.burntAfter(MOST_SECONDS, n);
        startRow();
        tell((after == NONE ? MOST_SECONDS : after) / n);
        return after == NONE ? CANNOT : after;
    }

    public int often(int person) {
        if (!holds(person)) {
            return NONE;
        }
        int best = NONE;
        int longest = 0;
        for (int n = MOST_HELD; n >= 1 && longest != NONE; n--) {
            carrier.begin(person, state.load[person]);
            int after = carrier.burntAfter(MOST_SECONDS, n);
            if (after == NONE || after >= longest) {
                best = n;
                longest = after;
            }
        }
        startRow();
        tell(longest);
        return best;
    }

    public int layers(int person, int pot, int n) {
        if (!mayHold(person, pot, n)) {
            return NONE;
        }
        for (int v = 0; v <= MOST_FOLD; v++) {
            carrier.begin(person, pot);
            carrier.fold = v;
            if (carrier.carried(n) == n) {
                startRow();
                tell(carrier.warm);
                return v;
            }
        }
        return CANNOT;
    }

    public int hottest(int person, int pot, int n) {
        if (!mayHold(person, pot, n)) {
            return NONE;
        }
        for (int v = 0; v <= MOST_HEAT; v++) {
            carrier.begin(person, pot);
            carrier.heat = v;
            if (carrier.carried(n) < n) {
                return v == 0 ? CANNOT : v - 1;
            }
        }
        return MOST_HEAT;
    }

    private boolean holds(int person) {
        return kitchen.isPerson(person) && state.load[person] != NONE;
    }

    private boolean mayHold(int person, int pot, int n) {
        return kitchen.isPerson(person) && kitchen.isPot(pot) && !state.isDropped(pot)
            && n >= 1 && n <= MOST_HELD;
    }

    // ---- ways

    public int path(int from, int to) {
        if (!kitchen.isPlace(from) || !kitchen.isPlace(to)) {
            return NONE;
        }
        if (!paths.find(from, to)) {
            return CANNOT;
        }
        startRow();
        for (int k = 0; k < paths.size; k++) {
            tell(paths.places[k]);
        }
        return paths.steps;
    }

    public int clear(int from, int to) {
        if (!kitchen.isPlace(from) || !kitchen.isPlace(to)) {
            return NONE;
        }
        if (!paths.findByDoors(from, to)) {
            return CANNOT;
        }
        startRow();
        tell(paths.doors);
        tell(paths.steps);
        return Integer.bitCount(paths.doors);
    }

    public int far(int person, int to) {
        if (!holds(person) || !kitchen.isPlace(to)) {
            return NONE;
        }
        if (!paths.find(state.at[person], to)) {
            return CANNOT;
        }
        carrier.begin(person, state.load[person]);
        int reached = 0;
        int seconds = 0;
        boolean burnt = false;
        while (reached < paths.size - 1 && !burnt) {
            int unburnt = carrier.carried(paths.legs[reached]);
            seconds += unburnt;
            burnt = unburnt < paths.legs[reached];
            if (!burnt) {
                reached++;
            }
        }
        startRow();
        tell(burnt ? 0 : 1);
        tell(seconds);
        return reached;
    }

    public int rests(int person, int to, int r) {
        if (!holds(person) || !kitchen.isPlace(to) || r < 1 || r > MOST_REST) {
            return NONE;
        }
        if (!paths.find(state.at[person], to)) {
            return NOT_THERE;
        }
        int times = rester.fewest(person, state.load[person], r, PLACES);
        if (times == NONE) {
            return CANNOT;
        }
        startRow();
        for (int k = 0; k < times; k++) {
            tell(rester.best[k]);
        }
        return times;
    }

    public int soonest(int person, int to) {
        if (!holds(person) || !kitchen.isPlace(to)) {
            return NONE;
        }
        if (!paths.find(state.at[person], to)) {
            return NOT_THERE;
        }
        int bestRest = 0;
        int bestTimes = NONE;
        for (int r = 1; r <= MOST_REST && bestTimes != 0; r++) {
            // Only fewer seconds than the best so far are of use.
            int most = bestTimes == NONE ? PLACES : (bestRest * bestTimes - 1) / r;
            int times = rester.fewest(person, state.load[person], r, most);
            if (times != NONE) {
                bestTimes = times;
                bestRest = r;
            }
        }
        if (bestTimes == NONE) {
            return CANNOT;
        }
        startRow();
        tell(bestTimes == 0 ? 0 : bestRest);
        tell(bestTimes);
        return paths.steps + bestRest * bestTimes;
    }

    public int chain(int pot, int to, int those) {
        if (!kitchen.isPot(pot) || !kitchen.isPlace(to) || !areFree(those)) {
            return NONE;
        }
        if (state.lies[pot] == NONE) {
            return NONE;
        }
        if (!paths.find(state.lies[pot], to)) {
            return NOT_THERE;
        }
        int fewest = line.fewest(pot, those);
        if (fewest == NONE) {
            return CANNOT;
        }
        startRow();
        for (int k = 0; k < paths.size - 1; k++) {
            tell(line.carries[k]);
        }
        return fewest;
    }

    /** Whether bits tell of people who are there and hold nothing. */
    private boolean areFree(int those) {
        if (those >>> kitchen.people != 0) {
            return false;
        }
        for (int p = 0; p < kitchen.people; p++) {
            if ((those >> p & 1) != 0 && state.load[p] != NONE) {
                return false;
            }
        }
        return true;
    }

    // ---- dishes

    public int serve(int person, int those, int to, int v) {
        if (!kitchen.isPerson(person) || state.load[person] != NONE || !areOnPlaces(those)) {
            return NONE;
        }
        if (!kitchen.isPlace(to) || kitchen.kinds[to] != TABLE || v < 0 || v > MOST_HEAT) {
            return NONE;
        }
        int seconds = dishes.soonestOrder(person, those, to, v);
        if (seconds == NONE) {
            return CANNOT;
        }
        startRow();
        for (int k = 0; k < dishes.size; k++) {
            tell(dishes.best[k]);
        }
        tell(dishes.leastHeat(those, seconds));
        return seconds;
    }

    /** Whether bits tell of some pots, each of them on a place. */
    private boolean areOnPlaces(int those) {
        if (those == 0 || those >>> kitchen.pots != 0) {
            return false;
        }
        for (int p = 0; p < kitchen.pots; p++) {
            if ((those >> p & 1) != 0 && state.lies[p] == NONE) {
                return false;
            }
        }
        return true;
    }

    // ---- marks

    public int mark(int place, int n) {
        if (!kitchen.isPlace(place) || n < 0 || n > MOST_SECONDS) {
            return NONE;
        }
        return marks.add(place, n);
    }

    public int wipe() {
        int were = marks.size;
        marks.size = 0;
        return were;
    }

    public int fits(int from, int to) {
        if (!kitchen.isPlace(from) || !kitchen.isPlace(to) || from == to) {
            return NONE;
        }
        int ways = marks.fitting(from, to);
        startRow();
        for (int k = 0; k < marks.leastSize; k++) {
            tell(marks.least[k]);
        }
        return ways;
    }

    // ---- dinners

    public int dinners(int person, int to, int seed, int n) {
        if (!holds(person) || !kitchen.isPlace(to) || n < 1 || n > MOST_DINNERS) {
            return NONE;
        }
        if (!paths.find(state.at[person], to)) {
            return CANNOT;
        }
        int drawn = seed;
        int unburnt = 0;
        int greatest = NONE;
        int least = NONE;
        for (int k = 0; k < n; k++) {
            drawn = drawn * 1103515245 + 12345;
            carrier.begin(person, state.load[person]);
            int heat = Math.min(MOST_HEAT, carrier.heat + (drawn >>> 16) % DRAWN);
            carrier.heat = heat;
            if (carrier.carried(paths.steps) == paths.steps) {
                unburnt++;
                greatest = Math.max(greatest, heat);
            } else if (least == NONE || heat < least) {
                least = heat;
            }
        }
        startRow();
        tell(greatest);
        tell(least);
        return unburnt;
    }

    // ---- kept

    public boolean keep(int i) {
        if (i < 0 || i >= KEPT) {
            return false;
        }
        kept[i].copyFrom(state);
        keptBits |= 1 << i;
        return true;
    }

    public boolean again(int i) {
        if (i < 0 || i >= KEPT || (keptBits >> i & 1) == 0) {
            return false;
        }
        state.copyFrom(kept[i]);
        acts.forget();
        return true;
    }

    public int count(int what) {
        switch (what) {
            case 0: return kitchen.places;
            case 1: return kitchen.ways;
            case 2: return kitchen.pots;
            case 3: return kitchen.people;
            case 4: return state.now;
            case 5: return state.open;
            case 6: return state.dropped;
            case 7: return state.burnings(kitchen.people);
            case 8: return acts.undoable;
            case 9: return marks.size;
            case 10: return told;
            case 11: return text.length;
            default: return NO_COUNT;
        }
    }

    public long row(int i) throws NoSuchElementException {
        if (i < 0 || i >= told || i >= ROW_NUMBERS) {
            throw new NoSuchElementException();
        }
        return numbers[i];
    }

    private void startRow() {
        told = 0;
    }

    private void tell(long number) {
        if (told < ROW_NUMBERS) {
            numbers[told] = number;
            told++;
        }
    }

    /** THE TEXT, and how far it is read. */
    private static final class Text {
        final char[] signs = new char[TEXT_SIGNS];
        int length;
        /** Behind the last sign that may be read. */
        int limit;
        /** Whether there are more signs than may be read. */
        boolean over;
        /** The sign that is read next, or that can't stand there. */
        int at;
        boolean failed;

        int append(int v) {
            if (length + 4 > TEXT_SIGNS) {
                return NONE;
            }
            for (int shift = 24; shift >= 0; shift -= 8) {
                signs[length] = (char) (v >>> shift & 255);
                length++;
            }
            return length;
        }

        boolean shorten(int n) {
            if (n < 0 || n > length) {
                return false;
            }
            length = n;
            return true;
        }

        void open(int most) {
            limit = Math.min(length, most);
            over = length > most;
            at = 0;
            failed = false;
        }

        /** Empties the text: which sign of it can't stand where it does, or NONE. */
        int close() {
            length = 0;
            if (failed || at < limit) {
                return at;
            }
            return over ? limit : NONE;
        }

        boolean atEnd() {
            return failed || at >= limit;
        }

        /** The next sign, or NONE. */
        int peek() {
            return failed || at < 0 || at >= limit || at >= TEXT_SIGNS ? NONE : signs[at];
        }

        void fail() {
            failed = true;
        }

        void failAt(int p) {
            if (!failed) {
                failed = true;
                at = p;
            }
        }

        void next() {
            if (!failed) {
                at++;
            }
        }

        boolean skip(char sign) {
            if (peek() != sign) {
                return false;
            }
            at++;
            return true;
        }

        void expect(char sign) {
            if (!skip(sign)) {
                failed = true;
            }
        }

        boolean isDigit() {
            return peek() >= '0' && peek() <= '9';
        }

        int digit(int least) {
            int value = peek() - '0';
            if (value < least || value > 9) {
                failed = true;
                return least;
            }
            at++;
            return value;
        }

        int number(int digits) {
            int value = digit(0);
            for (int k = 1; k < digits && isDigit(); k++) {
                value = 10 * value + digit(0);
            }
            return value;
        }

        /** The number of a place, told by its letter, of some first places but for one. */
        int letter(int places, int unlike) {
            int value = peek() - 'a';
            if (value < 0 || value >= places || value == unlike) {
                failed = true;
                return NONE;
            }
            at++;
            return value;
        }
    }

    /** THE RULE: what comes through, in the order in which a stack reckons it. */
    private static final class Rule {
        private static final int NESTED = 4;
        private static final int NEGATE = '!';

        /** Numbers as they are; names and signs below 0. */
        final int[] code = new int[RULE_SIGNS];
        int size;
        final int[] draft = new int[RULE_SIGNS];
        int drafted;
        final int[] stack = new int[RULE_SIGNS];

        int read(Text text) {
            text.open(RULE_SIGNS);
            drafted = 0;
            if (!text.atEnd()) {
                expression(text, 0);
            }
            int fault = text.close();
            if (fault != NONE) {
                return -1 - fault;
            }
            System.arraycopy(draft, 0, code, 0, drafted);
            size = drafted;
            return 0;
        }

        private void expression(Text text, int depth) {
            sum(text, depth);
            int sign = text.peek();
            if (sign == '<' || sign == '>' || sign == '=') {
                text.next();
                sum(text, depth);
                emit(-sign);
            }
        }

        private void sum(Text text, int depth) {
            product(text, depth);
            int sign = text.peek();
            for (int k = 0; k < RULE_SIGNS && (sign == '+' || sign == '-'); k++) {
                text.next();
                product(text, depth);
                emit(-sign);
                sign = text.peek();
            }
        }

        private void product(Text text, int depth) {
            factor(text, depth);
            int sign = text.peek();
            for (int k = 0; k < RULE_SIGNS && (sign == '*' || sign == '/'); k++) {
                text.next();
                factor(text, depth);
                emit(-sign);
                sign = text.peek();
            }
        }

        private void factor(Text text, int depth) {
            boolean negated = false;
            for (int k = 0; k < RULE_SIGNS && text.skip('-'); k++) {
                negated = !negated;
            }
            thing(text, depth);
            if (negated) {
                emit(-NEGATE);
            }
        }

        private void thing(Text text, int depth) {
            int sign = text.peek();
            if (sign == '(' && depth < NESTED) {
                text.next();
                expression(text, depth + 1);
                text.expect(')');
            } else if (text.isDigit()) {
                emit(text.number(3));
            } else if (isName(sign)) {
                text.next();
                emit(-sign);
            } else {
                text.fail();
            }
        }

        private void emit(int value) {
            if (drafted < RULE_SIGNS) {
                draft[drafted] = value;
                drafted++;
            }
        }

        private static boolean isName(int sign) {
            switch (sign) {
                case 'h': case 'f': case 'n': case 'b': case 's': case 'i': case 'p': case 'r':
                    return true;
                default:
                    return false;
            }
        }

        /** What comes through in a second to one who carries. */
        int through(Carrier one) {
            if (size == 0) {
                return within(combine('/', one.heat, 10 * one.fold + 1));
            }
            int top = 0;
            for (int k = 0; k < size; k++) {
                int value = code[k];
                if (value >= 0 || isName(-value)) {
                    if (top < RULE_SIGNS) {
                        stack[top] = value >= 0 ? value : one.valueOf(-value);
                        top++;
                    }
                } else if (value == -NEGATE) {
                    if (top >= 1) {
                        stack[top - 1] = -stack[top - 1];
                    }
                } else if (top >= 2) {
                    top--;
                    stack[top - 1] = combine(-value, stack[top - 1], stack[top]);
                }
            }
            return within(stack[0]);
        }

        private static int within(int value) {
            return Math.max(0, Math.min(MOST_HEAT, value));
        }

        private static int combine(int sign, int a, int b) {
            switch (sign) {
                case '<': return a < b ? 1 : 0;
                case '>': return a > b ? 1 : 0;
                case '=': return a == b ? 1 : 0;
                case '+': return a + b;
                case '-': return a - b;
                case '*': return a * b;
                default: return b == 0 ? 0 : a / b;
            }
        }
    }

    /** What THE KITCHEN has that never changes once it is told. */
    private static final class Kitchen {
        int places;
        int ways;
        int pots;
        int people;
        final int[] kinds = new int[PLACES];
        final int[] ones = new int[WAYS];
        final int[] others = new int[WAYS];
        final int[] steps = new int[WAYS];
        /** Bits of ways with a door. */
        int doored;
        final int[] cools = new int[POTS];
        final int[] bears = new int[PEOPLE];

        boolean isPlace(int p) {
            return p >= 0 && p < places && p < PLACES;
        }

        boolean isWay(int w) {
            return w >= 0 && w < ways && w < WAYS;
        }

        boolean isPot(int p) {
            return p >= 0 && p < pots && p < POTS;
        }

        boolean isPerson(int p) {
            return p >= 0 && p < people && p < PEOPLE;
        }

        boolean hasDoor(int w) {
            return (doored >> w & 1) != 0;
        }

        /** Whether one can go by a way, some doors being open. */
        boolean isPassable(int w, int open) {
            return !hasDoor(w) || (open >> w & 1) != 0;
        }

        /** Where one comes to by a way from a place, or NONE. */
        int otherEnd(int w, int place) {
            if (!isWay(w)) {
                return NONE;
            }
            return ones[w] == place ? others[w] : others[w] == place ? ones[w] : NONE;
        }

        int waysAt(int place) {
            int bits = 0;
            for (int w = 0; w < ways; w++) {
                if (ones[w] == place || others[w] == place) {
                    bits |= 1 << w;
                }
            }
            return bits;
        }

        /** Reads lines of the text: how many, or -1 - p for a sign that can't stand at p. */
        int read(Text text, State state) {
            int hadPlaces = places;
            int hadWays = ways;
            int hadPots = pots;
            int hadPeople = people;
            text.open(KITCHEN_SIGNS);
            int lines = 0;
            boolean more = true;
            while (more && lines < KITCHEN_SIGNS) {
                readLine(text, state);
                lines++;
                more = text.skip(';');
            }
            int fault = text.close();
            if (fault == NONE) {
                return lines;
            }
            places = hadPlaces;
            ways = hadWays;
            pots = hadPots;
            people = hadPeople;
            return -1 - fault;
        }

        private void readLine(Text text, State state) {
            int sign = text.peek();
            if (!hasRoom(sign)) {
                text.fail();
                return;
            }
            text.next();
            switch (sign) {
                case 'w': readWay(text, state); break;
                case 'p': readPot(text, state); break;
                case 'h': readPerson(text, state); break;
                default: addPlace(sign == 'f' ? FLOOR : sign == 'b' ? BOARD : TABLE);
            }
        }

        /** Whether a line that begins so can come. */
        private boolean hasRoom(int sign) {
            switch (sign) {
                case 'f': case 'b': case 't': return places < PLACES;
                case 'w': return ways < WAYS;
                case 'p': return pots < POTS;
                case 'h': return people < PEOPLE;
                default: return false;
            }
        }

        private void addPlace(int kind) {
            if (places < PLACES) {
                kinds[places] = kind;
                places++;
            }
        }

        private void readWay(Text text, State state) {
            int one = text.letter(places, NONE);
            int other = text.letter(places, one);
            int length = text.digit(1);
            boolean door = text.skip('!');
            if (text.failed || ways >= WAYS) {
                return;
            }
            ones[ways] = one;
            others[ways] = other;
            steps[ways] = length;
            doored = doored & ~(1 << ways) | (door ? 1 << ways : 0);
            state.open &= ~(1 << ways);
            ways++;
        }

        private void readPot(Text text, State state) {
            int heat = text.number(3);
            text.expect('-');
            int cooling = text.digit(0);
            text.expect('@');
            int start = text.at;
            int place = text.letter(places, NONE);
            if (isPlace(place) && kinds[place] == FLOOR) {
                text.failAt(start);
            }
            if (text.failed || pots >= POTS) {
                return;
            }
            cools[pots] = cooling;
            state.addPot(pots, heat, place);
            pots++;
        }

        private void readPerson(Text text, State state) {
            int start = text.at;
            int bearing = text.number(2);
            // One digit that is cut off by the limit could still become more than 0.
            boolean cut = text.over && text.at == text.limit && text.at - start < 2;
            if (bearing == 0 && !cut) {
                text.failAt(text.at - 1);
            }
            text.expect('@');
            int place = text.letter(places, NONE);
            if (text.failed || people >= PEOPLE) {
                return;
            }
            bears[people] = bearing;
            state.addPerson(people, place);
            people++;
        }
    }

    /** POTS, PEOPLE, doors and NOW: all that acts change. */
    private static final class State {
        final int[] heat = new int[POTS];
        final int[] lies = new int[POTS];
        final int[] holder = new int[POTS];
        /** Bits of pots. */
        int dropped;
        final int[] at = new int[PEOPLE];
        /** Two of each of PEOPLE. */
        final int[] warm = new int[2 * PEOPLE];
        final int[] hand = new int[PEOPLE];
        final int[] fold = new int[PEOPLE];
        final int[] load = new int[PEOPLE];
        final int[] burnt = new int[PEOPLE];
        /** Bits of ways whose door is open. */
        int open;
        int now;

        void copyFrom(State other) {
            System.arraycopy(other.heat, 0, heat, 0, POTS);
            System.arraycopy(other.lies, 0, lies, 0, POTS);
            System.arraycopy(other.holder, 0, holder, 0, POTS);
            dropped = other.dropped;
            System.arraycopy(other.at, 0, at, 0, PEOPLE);
            System.arraycopy(other.warm, 0, warm, 0, 2 * PEOPLE);
            System.arraycopy(other.hand, 0, hand, 0, PEOPLE);
            System.arraycopy(other.fold, 0, fold, 0, PEOPLE);
            System.arraycopy(other.load, 0, load, 0, PEOPLE);
            System.arraycopy(other.burnt, 0, burnt, 0, PEOPLE);
            open = other.open;
            now = other.now;
        }

        void addPot(int p, int hot, int place) {
            if (p < 0 || p >= POTS) {
                return;
            }
            heat[p] = hot;
            lies[p] = place;
            holder[p] = NONE;
            dropped &= ~(1 << p);
        }

        void addPerson(int p, int place) {
            if (p < 0 || p >= PEOPLE) {
                return;
            }
            at[p] = place;
            warm[2 * p] = 0;
            warm[2 * p + 1] = 0;
            hand[p] = 0;
            fold[p] = 0;
            load[p] = NONE;
            burnt[p] = 0;
        }

        boolean isDropped(int pot) {
            return (dropped >> pot & 1) != 0;
        }

        int potsOn(int place, int pots) {
            int bits = 0;
            for (int p = 0; p < pots && p < POTS; p++) {
                if (lies[p] == place) {
                    bits |= 1 << p;
                }
            }
            return bits;
        }

        int peopleAt(int place, int people) {
            int bits = 0;
            for (int p = 0; p < people && p < PEOPLE; p++) {
                if (at[p] == place) {
                    bits |= 1 << p;
                }
            }
            return bits;
        }

        int burnings(int people) {
            int sum = 0;
            for (int p = 0; p < people && p < PEOPLE; p++) {
                sum += burnt[p];
            }
            return sum;
        }
    }

    /** One who carries a pot in thought, from what is now on: nothing of the state changes. */
    private static final class Carrier {
        final Kitchen kitchen;
        final State state;
        final Rule rule;
        int person;
        int pot;
        int bears;
        int fold;
        int hand;
        /** How warm the hand is that is used. */
        int warm;
        int other;
        int heat;
        int cools;
        int now;

        Carrier(Kitchen kitchen, State state, Rule rule) {
            this.kitchen = kitchen;
            this.state = state;
            this.rule = rule;
        }

        /** One stands there as it is now: whether there is such a one. */
        boolean stand(int who) {
            if (!kitchen.isPerson(who)) {
                return false;
            }
            person = who;
            bears = kitchen.bears[who];
            fold = state.fold[who];
            hand = state.hand[who] & 1;
            warm = state.warm[2 * who + hand];
            other = state.warm[2 * who + 1 - hand];
            now = state.now;
            return true;
        }

        /** It takes a pot that has cooled from what is now till it takes it. */
        boolean lift(int what) {
            if (!kitchen.isPot(what)) {
                return false;
            }
            pot = what;
            cools = kitchen.cools[what];
            heat = Math.max(0, state.heat[what] - cools * (now - state.now));
            return true;
        }

        boolean begin(int who, int what) {
            return stand(who) && lift(what);
        }

        /** A second goes by with the pot: false, and all is as ahead of it, if one is burnt. */
        boolean holdOn() {
            int warmer = Math.min(MOST_WARM, warm + rule.through(this));
            if (warmer > bears) {
                return false;
            }
            warm = warmer;
            other -= other / 4;
            heat = Math.max(0, heat - cools);
            now++;
            return true;
        }

        /** How many of some seconds it holds the pot unburnt. */
        int carried(int seconds) {
            int unburnt = 0;
            while (unburnt < seconds && holdOn()) {
                unburnt++;
            }
            return unburnt;
        }

        /** In which of some seconds one is burnt, or NONE, changing hands each some seconds (0: never). */
        int burntAfter(int seconds, int every) {
            for (int k = 1; k <= seconds; k++) {
                if (every > 0 && k % every == 0) {
                    changeHands();
                }
                if (!holdOn()) {
                    return k;
                }
            }
            return NONE;
        }

        private void changeHands() {
            int unused = warm;
            warm = other;
            other = unused;
            hand = 1 - hand;
        }

        /** Seconds go by without a pot in hand; only burntAfter() asks for the other hand, and never behind this. */
        void rest(int seconds) {
            for (int k = 0; k < seconds; k++) {
                warm -= warm / 4;
                heat = Math.max(0, heat - cools);
            }
            now += seconds;
        }

        int valueOf(int name) {
            switch (name) {
                case 'h': return heat;
                case 'f': return fold;
                case 'n': return warm;
                case 'b': return bears;
                case 's': return now;
                case 'i': return person;
                case 'p': return pot;
                default: return hand;
            }
        }
    }

    /** What people do, the seconds that go by meanwhile, and what of it can be undone. */
    private static final class Acts {
        private static final int PLANNED = DINNER_SIGNS / 2;

        final Kitchen kitchen;
        final State state;
        final Rule rule;
        final Carrier carrier;
        /** How often people were burnt since all was noted. */
        int burnings;
        /** Bits of people who were, and of pots that they dropped. */
        int who;
        int fallen;
        /** A ring, with one more for what may still be refused. */
        final State[] before = new State[UNDONE + 1];
        int oldest;
        int undoable;
        /** A dinner: letters of acts, and the numbers told behind each. */
        final int[] letters = new int[PLANNED];
        final int[] firsts = new int[PLANNED];
        final int[] others = new int[PLANNED];

        Acts(Kitchen kitchen, State state, Rule rule, Carrier carrier) {
            this.kitchen = kitchen;
            this.state = state;
            this.rule = rule;
            this.carrier = carrier;
            for (int i = 0; i <= UNDONE; i++) {
                before[i] = new State();
            }
        }

        private int slot(int i) {
            return Math.floorMod(oldest + i, UNDONE + 1);
        }

        /** All is noted as it is ahead of an act, or of a dinner. */
        void note() {
            before[slot(undoable)].copyFrom(state);
            burnings = 0;
            who = 0;
            fallen = 0;
        }

        /** What was noted can be undone, if the act was not refused: its answer. */
        int settled(int answer) {
            if (answer >= 0) {
                if (undoable < UNDONE) {
                    undoable++;
                } else {
                    oldest = slot(1);
                }
            }
            return answer;
        }

        int back() {
            if (undoable == 0) {
                return NONE;
            }
            undoable--;
            state.copyFrom(before[slot(undoable)]);
            return undoable;
        }

        void forget() {
            undoable = 0;
        }

        int taken(int person, int pot) {
            if (!kitchen.isPerson(person)) {
                return NONE;
            }
            if (state.load[person] != NONE) {
                return CANNOT;
            }
            if (!kitchen.isPot(pot) || state.lies[pot] != state.at[person]) {
                return NOT_THERE;
            }
            state.lies[pot] = NONE;
            state.holder[pot] = person;
            state.load[person] = pot;
            return state.heat[pot];
        }

        int setDown(int person) {
            if (!kitchen.isPerson(person)) {
                return NONE;
            }
            int pot = state.load[person];
            if (!kitchen.isPot(pot)) {
                return CANNOT;
            }
            int place = state.at[person];
            if (!kitchen.isPlace(place) || kitchen.kinds[place] == FLOOR) {
                return NOT_THERE;
            }
            state.load[person] = NONE;
            state.holder[pot] = NONE;
            state.lies[pot] = place;
            return pot;
        }

        int walked(int person, int way) {
            if (!kitchen.isPerson(person)) {
                return NONE;
            }
            int goal = kitchen.otherEnd(way, state.at[person]);
            if (goal == NONE) {
                return CANNOT;
            }
            if (!kitchen.isPassable(way, state.open)) {
                return NOT_THERE;
            }
            for (int k = 0; k < kitchen.steps[way]; k++) {
                second();
            }
            state.at[person] = goal;
            return kitchen.steps[way];
        }

        int elapsed(int n) {
            if (n < 0 || n > MOST_HELD) {
                return NONE;
            }
            for (int k = 0; k < n; k++) {
                second();
            }
            return burnings;
        }

        private void second() {
            for (int p = 0; p < kitchen.people; p++) {
                hold(p);
                if (state.load[p] == NONE) {
                    coolHand(2 * p + state.hand[p]);
                }
                coolHand(2 * p + 1 - state.hand[p]);
            }
            for (int p = 0; p < kitchen.pots; p++) {
                state.heat[p] = Math.max(0, state.heat[p] - kitchen.cools[p]);
            }
            state.now++;
        }

        private void coolHand(int which) {
            if (which >= 0 && which < 2 * PEOPLE) {
                state.warm[which] -= state.warm[which] / 4;
            }
        }

        /** One who holds a pot gets warmer by it, and drops it if that is too much. */
        private void hold(int p) {
            int pot = state.load[p];
            if (!carrier.begin(p, pot)) {
                return;
            }
            int warmer = Math.min(MOST_WARM, carrier.warm + rule.through(carrier));
            state.warm[2 * p + carrier.hand] = warmer;
            if (warmer > kitchen.bears[p]) {
                state.burnt[p]++;
                burnings++;
                who |= 1 << p;
                fallen |= 1 << pot;
                state.load[p] = NONE;
                state.holder[pot] = NONE;
                state.heat[pot] = 0;
                state.dropped |= 1 << pot;
            }
        }

        int changed(int person) {
            if (!kitchen.isPerson(person)) {
                return NONE;
            }
            state.hand[person] = 1 - state.hand[person];
            return state.hand[person];
        }

        int given(int person, int other) {
            if (!kitchen.isPerson(person) || !kitchen.isPerson(other) || person == other) {
                return NONE;
            }
            int pot = state.load[person];
            if (!kitchen.isPot(pot) || state.load[other] != NONE) {
                return CANNOT;
            }
            if (state.at[person] != state.at[other]) {
                return NOT_THERE;
            }
            state.load[person] = NONE;
            state.load[other] = pot;
            state.holder[pot] = other;
            return pot;
        }

        int folded(int person, int v) {
            if (!kitchen.isPerson(person) || v < 0 || v > MOST_FOLD) {
                return NONE;
            }
            int was = state.fold[person];
            state.fold[person] = v;
            return was;
        }

        int opened(int way, int v) {
            if (!kitchen.isWay(way) || !kitchen.hasDoor(way) || v < 0 || v > 1) {
                return NONE;
            }
            state.open = state.open & ~(1 << way) | v << way;
            return Integer.bitCount(state.open);
        }

        /** Reads a dinner: how many acts, or -1 - p for a sign that can't stand at p. */
        int read(Text text) {
            text.open(DINNER_SIGNS);
            int planned = 0;
            boolean more = !text.atEnd();
            while (more && planned < PLANNED) {
                readAct(text, planned);
                planned++;
                more = text.skip(';');
            }
            int fault = text.close();
            return fault == NONE ? planned : -1 - fault;
        }

        private void readAct(Text text, int k) {
            if (k < 0 || k >= PLANNED) {
                return;
            }
            int letter = text.peek();
            if (!isAct(letter)) {
                text.fail();
                return;
            }
            text.next();
            letters[k] = letter;
            firsts[k] = 0;
            others[k] = 0;
            switch (letter) {
                case 't': case 'g':
                    firsts[k] = text.digit(0);
                    others[k] = text.digit(0);
                    break;
                case 'd': case 'c':
                    firsts[k] = text.digit(0);
                    break;
                case 'w':
                    firsts[k] = text.digit(0);
                    others[k] = text.number(2);
                    break;
                default:
                    firsts[k] = text.number(2);
            }
        }

        private static boolean isAct(int letter) {
            switch (letter) {
                case 't': case 'd': case 'w': case 's': case 'c': case 'g': case 'o':
                    return true;
                default:
                    return false;
            }
        }

        /** Does an act of the dinner that was read: its answer. */
        int act(int k) {
            if (k < 0 || k >= PLANNED) {
                return NONE;
            }
            switch (letters[k]) {
                case 't': return taken(firsts[k], others[k]);
                case 'd': return setDown(firsts[k]);
                case 'w': return walked(firsts[k], others[k]);
                case 's': return elapsed(firsts[k]);
                case 'c': return changed(firsts[k]);
                case 'g': return given(firsts[k], others[k]);
                default: return opened(firsts[k], 1);
            }
        }
    }

    /** The shortest path between two places, of as short ones that of the least row of places. */
    private static final class Paths {
        private static final int UNREACHED = 1 << 30;
        /** In a cost, doors to be opened stand above their bits, and steps above both. */
        private static final int DOOR = 1 << WAYS;
        private static final int STEP = DOOR << 4;

        final Kitchen kitchen;
        final State state;
        /** What it costs to go by a way, or NONE. */
        final int[] price = new int[WAYS];
        /** What it costs from a place to the last one. */
        final int[] left = new int[PLACES];
        final int[] places = new int[PLACES];
        /** Steps from each of these to the next. */
        final int[] legs = new int[PLACES];
        int size;
        int steps;
        /** Bits of ways whose doors must be opened. */
        int doors;

        Paths(Kitchen kitchen, State state) {
            this.kitchen = kitchen;
            this.state = state;
        }

        boolean find(int from, int to) {
            for (int w = 0; w < kitchen.ways; w++) {
                price[w] = kitchen.isPassable(w, state.open) ? kitchen.steps[w] : NONE;
            }
            size = 0;
            if (!spread(from, to)) {
                return false;
            }
            steps = left[from];
            trace(from, to);
            return true;
        }

        boolean findByDoors(int from, int to) {
            for (int w = 0; w < kitchen.ways; w++) {
                int opening = kitchen.isPassable(w, state.open) ? 0 : DOOR + (1 << w);
                price[w] = kitchen.steps[w] * STEP + opening;
            }
            if (!spread(from, to)) {
                return false;
            }
            steps = left[from] / STEP;
            doors = left[from] % DOOR;
            return true;
        }

        /** Reckons what is left from each place to the last one: whether one gets there from the first. */
        private boolean spread(int from, int to) {
            if (!kitchen.isPlace(from) || !kitchen.isPlace(to)) {
                return false;
            }
            for (int p = 0; p < PLACES; p++) {
                left[p] = UNREACHED;
            }
            left[to] = 0;
            for (int round = 1; round < kitchen.places; round++) {
                for (int w = 0; w < kitchen.ways; w++) {
                    relax(w, kitchen.ones[w], kitchen.others[w]);
                    relax(w, kitchen.others[w], kitchen.ones[w]);
                }
            }
            return left[from] < UNREACHED;
        }

        private void relax(int w, int from, int to) {
            if (price[w] != NONE && left[to] < UNREACHED && left[to] + price[w] < left[from]) {
                left[from] = left[to] + price[w];
            }
        }

        private void trace(int from, int to) {
            int here = from;
            places[0] = from;
            size = 1;
            while (here != to && size < PLACES) {
                int next = nextFrom(here);
                if (next == NONE) {
                    return;
                }
                legs[size - 1] = left[here] - left[next];
                places[size] = next;
                size++;
                here = next;
            }
        }

        /** The least place behind one on a shortest path. */
        private int nextFrom(int here) {
            int least = NONE;
            for (int w = 0; w < kitchen.ways; w++) {
                int next = kitchen.otherEnd(w, here);
                boolean shortest = next != NONE && price[w] != NONE && left[next] + price[w] == left[here];
                if (shortest && (least == NONE || next < least)) {
                    least = next;
                }
            }
            return least;
        }
    }

    /** One who goes by the path that was found, and sets its pot down on the way. */
    private static final class Rester {
        final Kitchen kitchen;
        final Paths paths;
        final Carrier carrier;
        /** How it was with the carrier at each place of the path. */
        final int[] warm = new int[PLACES];
        final int[] heat = new int[PLACES];
        final int[] now = new int[PLACES];
        final int[] chosen = new int[PLACES];
        final int[] best = new int[PLACES];
        int bestSize;
        int most;
        int seconds;

        Rester(Kitchen kitchen, Paths paths, Carrier carrier) {
            this.kitchen = kitchen;
            this.paths = paths;
            this.carrier = carrier;
        }

        /** The fewest rests, of so many at most, or NONE. */
        int fewest(int person, int pot, int rest, int atMost) {
            seconds = rest;
            most = atMost;
            bestSize = NONE;
            if (carrier.begin(person, pot)) {
                stop(0, 0);
            }
            return bestSize;
        }

        /** It is at a place of the path unburnt, and may go on at once or after a rest. */
        private void stop(int at, int rests) {
            if (at >= paths.size - 1 || at >= PLACES) {
                arrived(rests);
                return;
            }
            warm[at] = carrier.warm;
            heat[at] = carrier.heat;
            now[at] = carrier.now;
            goOn(at, rests);
            if (at > 0 && rests < most && rests < PLACES && kitchen.kinds[paths.places[at]] != FLOOR) {
                carrier.warm = warm[at];
                carrier.heat = heat[at];
                carrier.now = now[at];
                carrier.rest(seconds);
                chosen[rests] = paths.places[at];
                goOn(at, rests + 1);
            }
        }

        private void goOn(int at, int rests) {
            if (carrier.carried(paths.legs[at]) == paths.legs[at]) {
                stop(at + 1, rests);
            }
        }

        private void arrived(int rests) {
            if (bestSize != NONE && !isLess(rests)) {
                return;
            }
            bestSize = rests;
            most = rests;
            System.arraycopy(chosen, 0, best, 0, rests);
        }

        private boolean isLess(int rests) {
            if (rests != bestSize) {
                return rests < bestSize;
            }
            for (int k = 0; k < rests; k++) {
                if (chosen[k] != best[k]) {
                    return chosen[k] < best[k];
                }
            }
            return false;
        }
    }

    /** A line of people who hand a pot on by the path that was found. */
    private static final class Line {
        final Kitchen kitchen;
        final State state;
        final Paths paths;
        final Carrier carrier;
        /** For one and a place of the path (as many for each): how many ways behind the first it gets. */
        final int[] reach = new int[PEOPLE * PLACES];
        final int[] carries = new int[PLACES];
        int those;

        Line(Kitchen kitchen, State state, Paths paths, Carrier carrier) {
            this.kitchen = kitchen;
            this.state = state;
            this.paths = paths;
            this.carrier = carrier;
        }

        /** The fewest who carry it there, or NONE. */
        int fewest(int pot, int bits) {
            those = bits;
            for (int p = 0; p < kitchen.people; p++) {
                measure(p, pot);
            }
            for (int n = 0; n <= kitchen.people; n++) {
                if (covers(0, NONE, 0, 0, n)) {
                    return n;
                }
            }
            return NONE;
        }

        private void measure(int person, int pot) {
            int elapsed = 0;
            for (int start = 0; start < paths.size - 1; start++) {
                carrier.stand(person);
                carrier.now = state.now + elapsed;
                carrier.lift(pot);
                int end = start;
                while (end < paths.size - 1 && carrier.carried(paths.legs[end]) == paths.legs[end]) {
                    end++;
                }
                reach[person * PLACES + start] = end;
                elapsed += paths.legs[start];
            }
        }

        /**
         * Whether the ways from one on can be carried: by the last one up to its end, and by some more who
         * did not carry yet. Tries people in turn, so that the first line found is the least row.
         */
        private boolean covers(int way, int last, int end, int used, int more) {
            if (way >= paths.size - 1 || way >= PLACES) {
                return true;
            }
            for (int p = 0; p < kitchen.people; p++) {
                carries[way] = p;
                if (p == last) {
                    if (way < end && covers(way + 1, last, end, used, more)) {
                        return true;
                    }
                } else if (more > 0 && ((those & ~used) >> p & 1) != 0 && reach[p * PLACES + way] > way) {
                    if (covers(way + 1, p, reach[p * PLACES + way], used | 1 << p, more - 1)) {
                        return true;
                    }
                }
            }
            return false;
        }
    }

    /** One who brings pots to a table, one by one. */
    private static final class Dishes {
        final Kitchen kitchen;
        final State state;
        final Paths paths;
        final Carrier carrier;
        /** Steps to each pot from where one is at first, and from the table. */
        final int[] first = new int[POTS];
        final int[] haul = new int[POTS];
        /** How warm the hand was ahead of each pot. */
        final int[] warm = new int[POTS];
        final int[] order = new int[POTS];
        final int[] best = new int[POTS];
        int size;
        int bestSeconds;
        int those;
        int hotEnough;

        Dishes(Kitchen kitchen, State state, Paths paths, Carrier carrier) {
            this.kitchen = kitchen;
            this.state = state;
            this.paths = paths;
            this.carrier = carrier;
        }

        /** After how many seconds the last pot is there, or NONE. */
        int soonestOrder(int person, int bits, int table, int v) {
            those = bits;
            hotEnough = v;
            size = Integer.bitCount(bits);
            bestSeconds = NONE;
            if (measure(person, table) && carrier.stand(person)) {
                bring(0, 0, 0);
            }
            return bestSeconds;
        }

        private boolean measure(int person, int table) {
            for (int p = 0; p < kitchen.pots; p++) {
                if ((those >> p & 1) != 0) {
                    if (!paths.find(state.at[person], state.lies[p])) {
                        return false;
                    }
                    first[p] = paths.steps;
                    if (!paths.find(state.lies[p], table)) {
                        return false;
                    }
                    haul[p] = paths.steps;
                }
            }
            return true;
        }

        /** Brings each pot that is not yet brought next, in turn. */
        private void bring(int brought, int bits, int seconds) {
            if (brought >= size || brought >= POTS) {
                arrived(seconds);
                return;
            }
            warm[brought] = carrier.warm;
            for (int p = 0; p < kitchen.pots; p++) {
                if (((those & ~bits) >> p & 1) != 0) {
                    int walk = brought == 0 ? first[p] : haul[p];
                    int then = seconds + walk + haul[p];
                    if (then <= MOST_SECONDS && (bestSeconds == NONE || then <= bestSeconds)) {
                        carrier.warm = warm[brought];
                        carrier.now = state.now + seconds;
                        carrier.rest(walk);
                        carrier.lift(p);
                        order[brought] = p;
                        if (carrier.carried(haul[p]) == haul[p]) {
                            bring(brought + 1, bits | 1 << p, then);
                        }
                    }
                }
            }
        }

        /** The first order of as many seconds is the least row, since pots are tried in turn. */
        private void arrived(int seconds) {
            boolean sooner = bestSeconds == NONE || seconds < bestSeconds;
            if (sooner && leastHeat(those, seconds) >= hotEnough) {
                bestSeconds = seconds;
                System.arraycopy(order, 0, best, 0, POTS);
            }
        }

        int leastHeat(int bits, int seconds) {
            int least = MOST_HEAT;
            for (int p = 0; p < kitchen.pots; p++) {
                if ((bits >> p & 1) != 0) {
                    least = Math.min(least, Math.max(0, state.heat[p] - kitchen.cools[p] * seconds));
                }
            }
            return least;
        }
    }

    /** Marks, and the ways that fit them. */
    private static final class Marks {
        final Kitchen kitchen;
        final State state;
        final int[] places = new int[MARKS];
        final int[] times = new int[MARKS];
        int size;
        /** After how many seconds one came to a place, or NONE. */
        final int[] came = new int[PLACES];
        final int[] trail = new int[PLACES];
        final int[] least = new int[PLACES];
        int leastSize;
        int goal;
        int found;

        Marks(Kitchen kitchen, State state) {
            this.kitchen = kitchen;
            this.state = state;
        }

        int add(int place, int n) {
            if (size >= MARKS) {
                return NONE;
            }
            places[size] = place;
            times[size] = n;
            size++;
            return size;
        }

        int fitting(int from, int to) {
            for (int p = 0; p < PLACES; p++) {
                came[p] = NONE;
            }
            goal = to;
            found = 0;
            leastSize = 0;
            visit(from, 0, 0);
            return found;
        }

        /** One comes to a place: tries the next places in turn, so that the first trail found is the least. */
        private void visit(int place, int depth, int seconds) {
            if (!kitchen.isPlace(place) || depth >= PLACES) {
                return;
            }
            trail[depth] = place;
            came[place] = seconds;
            if (place == goal) {
                arrived(depth + 1);
            } else {
                for (int next = 0; next < kitchen.places; next++) {
                    visitBy(place, next, depth);
                }
            }
            came[place] = NONE;
        }

        private void visitBy(int place, int next, int depth) {
            for (int w = 0; w < kitchen.ways && came[next] == NONE; w++) {
                if (kitchen.otherEnd(w, place) == next && kitchen.isPassable(w, state.open)) {
                    visit(next, depth + 1, came[place] + kitchen.steps[w]);
                }
            }
        }

        private void arrived(int length) {
            for (int m = 0; m < size; m++) {
                if (came[places[m]] != times[m]) {
                    return;
                }
            }
            if (found == 0) {
                leastSize = length;
                System.arraycopy(trail, 0, least, 0, length);
            }
            found++;
        }
    }
}
