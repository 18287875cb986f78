import java.util.Arrays;

/** Exact draws for finite things, after the document's promises 1 to 26. */
public final class PastDraws {
    public static final int BAD = -1, NONE = -2;

    private static final int MOST_STATES = 12;
    private static final int SIGNS = 8;
    private static final int MOST_PAST = 4096;
    private static final int MOST_BOUNDED = 64;
    private static final int MOST_COUNTED = 5;
    private static final int MOST_BLOCK = 64;
    private static final int BLOCKS = 500;
    private static final int DRAWS = 100;
    private static final int LETTERS = 4;
    private static final int MOST_LETTERS = 25;
    private static final int MOST_PLACES = 8;
    private static final int MOST_THINGS = 16;
    private static final int MOST_WEIGHT = 1000;
    private static final int MOST_BITS = 62;
    // A try fails only if the highest bit of its first hash is 1; no seed has more than 31 such in a row.
    private static final int MOST_TRIES = 1000000;

    private final int stateCount;
    private final Chain chain;
    private final Machine machine;
    private final Orders orders;
    private final Table table;

    public PastDraws(int states) {
        stateCount = Math.max(1, Math.min(MOST_STATES, states));
        chain = new Chain(stateCount);
        machine = new Machine(stateCount);
        orders = new Orders();
        table = new Table();
    }

    // ---- numbers from a seed

    public int hash(int s, int t) {
        return mixed(s, t);
    }

    public long pick(int s, long n) {
        if (!isBound(n)) {
            return BAD;
        }
        int bits = bitsFor(n);
        return topBits(s, firstBelow(s, n, bits), bits);
    }

    public int tries(int s, long n) {
        if (!isBound(n)) {
            return BAD;
        }
        return firstBelow(s, n, bitsFor(n)) + 1;
    }

    // ---- the chain

    public int rule(int state, int sign, int to) {
        if (!isState(state) || !isWithin(sign, 0, SIGNS - 1) || !isState(to)) {
            return BAD;
        }
        return chain.setStep(state, sign, to);
    }

    public int taken(int s, int length, int state) {
        if (!isWithin(length, 1, MOST_PAST) || !isState(state)) {
            return BAD;
        }
        return chain.throughPast(s, length, state);
    }

    public int past(int s, int most) {
        if (!isWithin(most, 1, MOST_PAST)) {
            return BAD;
        }
        int least = chain.leastMeeting(s, most);
        if (least == NONE) {
            return NONE;
        }
        // A row that meets still does when it is made longer, so only the next power of two counts.
        int length = powerFrom(least);
        return length > most ? NONE : chain.throughPast(s, length, 0);
    }

    public int fold(int s, int most) {
        if (!isWithin(most, 1, MOST_PAST)) {
            return BAD;
        }
        return chain.leastMeeting(s, most);
    }

    public int bounding(int s, int most) {
        if (!isWithin(most, 1, MOST_BOUNDED)) {
            return BAD;
        }
        return chain.leastBounded(s, most);
    }

    public int monotone() {
        return chain.keepsOrder() ? 1 : 0;
    }

    public int counted(int length, int state) {
        if (!isWithin(length, 1, MOST_COUNTED) || !isWithin(state, -1, stateCount - 1)) {
            return BAD;
        }
        return chain.rowsMeeting(length, state);
    }

    public long trees(int state) {
        if (!isWithin(state, -1, stateCount - 1)) {
            return BAD;
        }
        return state == -1 ? chain.allTrees() : chain.treesTo(state);
    }

    public int once(int s, int length, int k) {
        if (!isWithin(length, 1, MOST_BLOCK) || !isWithin(k, 0, DRAWS - 1)) {
            return BAD;
        }
        return chain.drawOf(s, length, k);
    }

    // ---- words

    public int lead(int state, int letter, int to) {
        if (!isState(state) || !isWithin(letter, 0, LETTERS - 1)) {
            return BAD;
        }
        if (to != NONE && !isState(to)) {
            return BAD;
        }
        return machine.setStep(state, letter, to);
    }

    public int end(int state, boolean is) {
        if (!isState(state)) {
            return BAD;
        }
        return machine.setEnd(state, is) ? 1 : 0;
    }

    public long words(int length) {
        if (!isWithin(length, 0, MOST_LETTERS)) {
            return BAD;
        }
        return machine.countAll(length);
    }

    public int word(int length, long number, int i) {
        if (!isWithin(length, 0, MOST_LETTERS) || !isWithin(i, 0, length - 1)) {
            return BAD;
        }
        if (number < 0 || number >= machine.countAll(length)) {
            return BAD;
        }
        return machine.letterOf(length, number, i);
    }

    public long rank(int length, long w) {
        if (!isWithin(length, 0, MOST_LETTERS)) {
            return BAD;
        }
        machine.countAll(length);
        return machine.numberOf(length, w);
    }

    // ---- permutations

    public int allow(int place, int number, boolean is) {
        if (!isWithin(place, 0, MOST_PLACES - 1) || !isWithin(number, 0, MOST_PLACES - 1)) {
            return BAD;
        }
        return orders.setAllowed(place, number, is) ? 1 : 0;
    }

    public int permutations(int m) {
        if (!isWithin(m, 1, MOST_PLACES)) {
            return BAD;
        }
        return orders.countAll(m);
    }

    public int permutation(int m, int number, int i) {
        if (!isWithin(m, 1, MOST_PLACES) || !isWithin(i, 0, m - 1)) {
            return BAD;
        }
        if (number < 0 || number >= orders.countAll(m)) {
            return BAD;
        }
        return orders.atPlace(m, number, i);
    }

    public int place(int m, int p) {
        if (!isWithin(m, 1, MOST_PLACES)) {
            return BAD;
        }
        orders.countAll(m);
        return orders.numberOf(m, p);
    }

    // ---- weights

    public int things(int m) {
        if (!isWithin(m, 1, MOST_THINGS)) {
            return BAD;
        }
        return table.setThings(m);
    }

    public int weight(int thing, int w) {
        if (!table.isThing(thing) || !isWithin(w, 0, MOST_WEIGHT)) {
            return BAD;
        }
        return table.setWeight(thing, w);
    }

    public int cell(int thing, int what) {
        if (!table.isThing(thing) || !isWithin(what, 0, 2)) {
            return BAD;
        }
        int sum = table.sum();
        if (sum == 0) {
            return NONE;
        }
        if (what == 2) {
            return sum;
        }
        table.make(sum);
        return what == 0 ? table.limitOf(thing) : table.otherOf(thing);
    }

    public int tell(int v) {
        int sum = table.sum();
        if (sum == 0) {
            return NONE;
        }
        if (!table.isThing(Math.floorDiv(v, sum))) {
            return BAD;
        }
        table.make(sum);
        return table.thingAt(v / sum, v % sum);
    }

    // ---- what several of them use

    private boolean isState(int state) {
        return state >= 0 && state < stateCount;
    }

    private static boolean isWithin(int number, int least, int most) {
        return number >= least && number <= most;
    }

    private static boolean isBound(long n) {
        return n >= 1 && n <= 1L << MOST_BITS;
    }

    private static int mixed(int s, int t) {
        int x = s + t * 0x9E3779B9;
        x = (x ^ (x >>> 16)) * 0x85EBCA6B;
        x = (x ^ (x >>> 13)) * 0xC2B2AE35;
        return x ^ (x >>> 16);
    }

    private static int signAt(int s, int t) {
        return mixed(s, t) >>> 29;
    }

    private static int bitsFor(long n) {
        int bits = 0;
        while (bits < MOST_BITS && 1L << bits < n) {
            bits++;
        }
        return bits;
    }

    private static int powerFrom(int least) {
        int power = 1;
        while (power < least && power < MOST_PAST) {
            power *= 2;
        }
        return power;
    }

    private static long topBits(int s, int k, int bits) {
        if (bits == 0) {
            // A shift by 64 would be one by 0.
            return 0;
        }
        long high = (long) mixed(s, 2 * k + 1) << 32;
        long low = mixed(s, 2 * k + 2) & 0xFFFFFFFFL;
        return (high | low) >>> (64 - bits);
    }

    private static int firstBelow(int s, long n, int bits) {
        int k = 0;
        while (k < MOST_TRIES && topBits(s, k, bits) >= n) {
            k++;
        }
        return k;
    }

    /** The chain; a set of its states is an int whose bit z stands for state z. */
    private static final class Chain {
        private final int n;
        private final int[][] next;
        private final int[] map;
        private final int[] longerMap;
        private final int[] rowsTo;
        private final int[] longerRowsTo;
        private final long[][] minor;

        Chain(int states) {
            n = states;
            next = new int[SIGNS][n];
            map = new int[n];
            longerMap = new int[n];
            rowsTo = new int[1 << n];
            longerRowsTo = new int[1 << n];
            minor = new long[n][n];
            for (int sign = 0; sign < SIGNS; sign++) {
                for (int state = 0; state < n; state++) {
                    next[sign][state] = state;
                }
            }
        }

        int setStep(int state, int sign, int to) {
            int before = next[sign][state];
            next[sign][state] = to;
            return before;
        }

        int throughPast(int s, int length, int state) {
            int at = state;
            for (int t = length; t >= 1; t--) {
                at = next[signAt(s, t)][at];
            }
            return at;
        }

        int leastMeeting(int s, int most) {
            for (int state = 0; state < n; state++) {
                map[state] = state;
            }
            for (int t = 1; t <= most; t++) {
                lengthenMap(signAt(s, t));
                if (mapMeets()) {
                    return t;
                }
            }
            return NONE;
        }

        // The longer row's new sign is the first that a state goes through.
        private void lengthenMap(int sign) {
            for (int state = 0; state < n; state++) {
                longerMap[state] = map[next[sign][state]];
            }
            System.arraycopy(longerMap, 0, map, 0, n);
        }

        private boolean mapMeets() {
            for (int state = 1; state < n; state++) {
                if (map[state] != map[0]) {
                    return false;
                }
            }
            return true;
        }

        int leastBounded(int s, int most) {
            for (int t = 1; t <= most; t++) {
                if (boundsMeet(s, t)) {
                    return t;
                }
            }
            return NONE;
        }

        private boolean boundsMeet(int s, int length) {
            int lower = 0;
            int upper = n - 1;
            for (int t = length; t >= 1; t--) {
                int[] step = next[signAt(s, t)];
                int least = step[lower];
                int greatest = step[lower];
                for (int state = lower + 1; state <= upper; state++) {
                    least = Math.min(least, step[state]);
                    greatest = Math.max(greatest, step[state]);
                }
                lower = least;
                upper = greatest;
            }
            return lower == upper;
        }

        boolean keepsOrder() {
            for (int sign = 0; sign < SIGNS; sign++) {
                for (int state = 1; state < n; state++) {
                    if (next[sign][state - 1] > next[sign][state]) {
                        return false;
                    }
                }
            }
            return true;
        }

        private int allStates() {
            return (1 << n) - 1;
        }

        private int imageOf(int set, int sign) {
            int image = 0;
            for (int state = 0; state < n; state++) {
                if ((set >> state & 1) != 0) {
                    image |= 1 << next[sign][state];
                }
            }
            return image;
        }

        private static boolean isSingle(int set) {
            return (set & (set - 1)) == 0;
        }

        // Rows are far more than sets that they take all states to, so rows are counted by these sets.
        int rowsMeeting(int length, int state) {
            Arrays.fill(rowsTo, 0);
            rowsTo[allStates()] = 1;
            for (int step = 0; step < length; step++) {
                lengthenRows();
            }
            if (state >= 0) {
                return rowsTo[1 << state];
            }
            int apart = 0;
            for (int set = 1; set <= allStates(); set++) {
                if (!isSingle(set)) {
                    apart += rowsTo[set];
                }
            }
            return apart;
        }

        private void lengthenRows() {
            Arrays.fill(longerRowsTo, 0);
            for (int set = 1; set <= allStates(); set++) {
                if (rowsTo[set] != 0) {
                    for (int sign = 0; sign < SIGNS; sign++) {
                        longerRowsTo[imageOf(set, sign)] += rowsTo[set];
                    }
                }
            }
            System.arraycopy(longerRowsTo, 0, rowsTo, 0, rowsTo.length);
        }

        long allTrees() {
            long sum = 0;
            for (int root = 0; root < n; root++) {
                sum += treesTo(root);
            }
            return sum;
        }

        // The matrix-tree theorem: the trees are a minor of the matrix of ways out less ways to each.
        long treesTo(int root) {
            for (int state = 0; state < n; state++) {
                if (state != root) {
                    fillMinorRow(state, root);
                }
            }
            return determinant(n - 1);
        }

        private void fillMinorRow(int state, int root) {
            int own = indexWithout(state, root);
            long[] row = minor[own];
            Arrays.fill(row, 0);
            for (int sign = 0; sign < SIGNS; sign++) {
                int to = next[sign][state];
                if (to != state) {
                    row[own]++;
                }
                if (to != state && to != root) {
                    row[indexWithout(to, root)]--;
                }
            }
        }

        private static int indexWithout(int state, int root) {
            return state < root ? state : state - 1;
        }

        // Bareiss: each division is exact, and no product is above 8 to the 20th, so a long holds them all.
        private long determinant(int size) {
            long pivot = 1;
            for (int k = 0; k < size; k++) {
                long divisor = pivot;
                pivot = minor[k][k];
                if (pivot == 0) {
                    // Some of the states up to k never leave these, so none of them comes to the root.
                    return 0;
                }
                for (int row = k + 1; row < size; row++) {
                    for (int column = k + 1; column < size; column++) {
                        long cross = minor[row][column] * pivot - minor[row][k] * minor[k][column];
                        minor[row][column] = cross / divisor;
                    }
                }
            }
            return pivot;
        }

        int drawOf(int s, int length, int k) {
            boolean hasMet = false;
            int draws = 0;
            int state = 0;
            for (int block = 0; block < BLOCKS; block++) {
                int before = length * block;
                boolean meets = blockMeets(s, before, length);
                if (meets && hasMet) {
                    if (draws == k) {
                        return state;
                    }
                    draws++;
                }
                hasMet = hasMet || meets;
                // Ahead of the first block that meets any state will do: that block takes all to one.
                state = throughBlock(s, before, length, state);
            }
            return NONE;
        }

        private boolean blockMeets(int s, int before, int length) {
            int set = allStates();
            for (int i = 1; i <= length && !isSingle(set); i++) {
                set = imageOf(set, signAt(s, before + i));
            }
            return isSingle(set);
        }

        private int throughBlock(int s, int before, int length, int state) {
            int at = state;
            for (int i = 1; i <= length; i++) {
                at = next[signAt(s, before + i)][at];
            }
            return at;
        }
    }

    /** The machine; counts tells how many words of a length lead from a state to an end. */
    private static final class Machine {
        private final int n;
        private final int[][] next;
        private final boolean[] ends;
        private final long[][] counts;

        Machine(int states) {
            n = states;
            next = new int[n][LETTERS];
            ends = new boolean[n];
            counts = new long[MOST_LETTERS + 1][n];
            for (int state = 0; state < n; state++) {
                Arrays.fill(next[state], NONE);
            }
        }

        int setStep(int state, int letter, int to) {
            int before = next[state][letter];
            next[state][letter] = to;
            return before;
        }

        boolean setEnd(int state, boolean is) {
            boolean before = ends[state];
            ends[state] = is;
            return before;
        }

        long countAll(int length) {
            for (int state = 0; state < n; state++) {
                counts[0][state] = ends[state] ? 1 : 0;
            }
            for (int letters = 1; letters <= length; letters++) {
                for (int state = 0; state < n; state++) {
                    counts[letters][state] = countBefore(state, LETTERS, letters - 1);
                }
            }
            return counts[length][0];
        }

        // Words from a state whose first letter is below the one given, with as many letters behind it.
        private long countBefore(int state, int letter, int behind) {
            long sum = 0;
            for (int first = 0; first < letter; first++) {
                sum += countWith(state, first, behind);
            }
            return sum;
        }

        private long countWith(int state, int letter, int behind) {
            int to = next[state][letter];
            return to == NONE ? 0 : counts[behind][to];
        }

        int letterOf(int length, long number, int i) {
            int state = 0;
            long left = number;
            for (int at = 0; at < length && state != NONE; at++) {
                int behind = length - 1 - at;
                int letter = letterAt(state, left, behind);
                if (at == i) {
                    return letter;
                }
                left -= countBefore(state, letter, behind);
                state = next[state][letter];
            }
            return BAD;
        }

        private int letterAt(int state, long number, int behind) {
            int letter = 0;
            while (letter < LETTERS - 1 && number >= countBefore(state, letter + 1, behind)) {
                letter++;
            }
            return letter;
        }

        long numberOf(int length, long w) {
            int state = 0;
            long number = 0;
            for (int at = 0; at < length; at++) {
                int letter = (int) (w >>> 2 * at) & LETTERS - 1;
                number += countBefore(state, letter, length - 1 - at);
                state = next[state][letter];
                if (state == NONE) {
                    return NONE;
                }
            }
            return ends[state] ? number : NONE;
        }
    }

    /** The permutations; a set of numbers is an int whose bit i stands for number i. */
    private static final class Orders {
        private final int[] allowed;
        // How many ways there are to go on when a set of numbers is used at the places so far.
        private final int[] ways;

        Orders() {
            allowed = new int[MOST_PLACES];
            ways = new int[1 << MOST_PLACES];
            Arrays.fill(allowed, (1 << MOST_PLACES) - 1);
        }

        boolean setAllowed(int place, int number, boolean is) {
            boolean before = (allowed[place] >> number & 1) != 0;
            if (is != before) {
                allowed[place] ^= 1 << number;
            }
            return before;
        }

        int countAll(int m) {
            int all = (1 << m) - 1;
            ways[all] = 1;
            for (int used = all - 1; used >= 0; used--) {
                ways[used] = waysBefore(m, used, m);
            }
            return ways[0];
        }

        private boolean isFree(int used, int number) {
            int free = allowed[Integer.bitCount(used)] & ~used;
            return (free >> number & 1) != 0;
        }

        // Ways to go on whose next number is below the one given; used is not yet all numbers below m.
        private int waysBefore(int m, int used, int number) {
            int sum = 0;
            for (int first = 0; first < number && first < m; first++) {
                if (isFree(used, first)) {
                    sum += ways[used | 1 << first];
                }
            }
            return sum;
        }

        int atPlace(int m, int number, int i) {
            int used = 0;
            int left = number;
            int has = BAD;
            for (int place = 0; place <= i; place++) {
                has = nextNumber(m, used, left);
                left -= waysBefore(m, used, has);
                used |= 1 << has;
            }
            return has;
        }

        private int nextNumber(int m, int used, int left) {
            int number = 0;
            while (number < m - 1 && left >= waysBefore(m, used, number + 1)) {
                number++;
            }
            return number;
        }

        int numberOf(int m, int p) {
            int used = 0;
            int sum = 0;
            for (int place = 0; place < m; place++) {
                int number = p >>> 3 * place & MOST_PLACES - 1;
                if (number >= m || !isFree(used, number)) {
                    return NONE;
                }
                sum += waysBefore(m, used, number);
                used |= 1 << number;
            }
            return sum;
        }
    }

    /** The weights and the table that is made of them. */
    private static final class Table {
        private final int[] weights;
        private final int[] rest;
        private final int[] limit;
        private final int[] other;
        private final boolean[] isMade;
        private int m;

        Table() {
            weights = new int[MOST_THINGS];
            rest = new int[MOST_THINGS];
            limit = new int[MOST_THINGS];
            other = new int[MOST_THINGS];
            isMade = new boolean[MOST_THINGS];
            m = 1;
            Arrays.fill(weights, 1);
        }

        boolean isThing(int thing) {
            return thing >= 0 && thing < m;
        }

        int setThings(int count) {
            int before = m;
            m = count;
            Arrays.fill(weights, 1);
            return before;
        }

        int setWeight(int thing, int w) {
            int before = weights[thing];
            weights[thing] = w;
            return before;
        }

        int sum() {
            int sum = 0;
            for (int thing = 0; thing < m; thing++) {
                sum += weights[thing];
            }
            return sum;
        }

        void make(int sum) {
            for (int thing = 0; thing < m; thing++) {
                rest[thing] = m * weights[thing];
                limit[thing] = sum;
                other[thing] = thing;
                isMade[thing] = false;
            }
            // Each turn makes one cell, so m turns are enough.
            for (int turn = 0; turn < m; turn++) {
                int low = firstUnder(sum);
                int high = firstOver(sum);
                if (low == NONE || high == NONE) {
                    return;
                }
                limit[low] = rest[low];
                other[low] = high;
                isMade[low] = true;
                rest[high] -= sum - limit[low];
            }
        }

        private int firstUnder(int sum) {
            for (int thing = 0; thing < m; thing++) {
                if (!isMade[thing] && rest[thing] < sum) {
                    return thing;
                }
            }
            return NONE;
        }

        private int firstOver(int sum) {
            for (int thing = 0; thing < m; thing++) {
                if (!isMade[thing] && rest[thing] > sum) {
                    return thing;
                }
            }
            return NONE;
        }

        int limitOf(int thing) {
            return limit[thing];
        }

        int otherOf(int thing) {
            return other[thing];
        }

        int thingAt(int thing, int part) {
            return part < limit[thing] ? thing : other[thing];
        }
    }
}
