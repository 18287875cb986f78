import java.math.BigInteger;
import java.util.ArrayList;
import java.util.Arrays;
import java.util.HashMap;
import java.util.List;
import java.util.Map;

/**
 * The whole document once more in its plainest form: each call starts anew from what was told. Rows and
 * permutations are all tried; words and trees are too many for that and are counted another way than the class does.
 */
final class PlainModel {
  private static final int BAD = -1;
  private static final int NONE = -2;

  final int n;
  private final int[][] takes;
  private final int[][] leads;
  private final boolean[] isEnd;
  private final boolean[][] isAllowed = new boolean[8][8];
  private int[] weights = {1};
  // Behind rule the trees are counted anew.
  private final Map<Integer, Long> treesBehind = new HashMap<>();

  PlainModel(int states) {
    n = states < 1 ? 1 : states > 12 ? 12 : states;
    takes = new int[n][8];
    leads = new int[n][4];
    isEnd = new boolean[n];
    for (int z = 0; z < n; z++) {
      Arrays.fill(takes[z], z);
      Arrays.fill(leads[z], NONE);
    }
    for (boolean[] numbers : isAllowed) {
      Arrays.fill(numbers, true);
    }
  }

  private static boolean isOutside(long number, long least, long most) {
    return number < least || number > most;
  }

  // ---- numbers

  int hash(int s, int t) {
    return Seeds.hashOf(s, t);
  }

  long pick(int s, long below) {
    return isOutside(below, 1, 1L << 62) ? BAD : tried(s, below)[0];
  }

  int tries(int s, long below) {
    return isOutside(below, 1, 1L << 62) ? BAD : (int) tried(s, below)[1];
  }

  // What is picked, and after how many tries.
  private static long[] tried(int s, long below) {
    int b = BigInteger.valueOf(below - 1).bitLength();
    for (int k = 0; ; k++) {
      BigInteger high = half(Seeds.hashOf(s, 2 * k + 1));
      BigInteger v = high.shiftLeft(32).add(half(Seeds.hashOf(s, 2 * k + 2))).shiftRight(64 - b);
      if (v.compareTo(BigInteger.valueOf(below)) < 0) {
        return new long[] {v.longValueExact(), k + 1};
      }
    }
  }

  private static BigInteger half(int hash) {
    return BigInteger.valueOf(Integer.toUnsignedLong(hash));
  }

  // ---- the chain

  int rule(int state, int sign, int to) {
    if (isOutside(state, 0, n - 1) || isOutside(sign, 0, 7) || isOutside(to, 0, n - 1)) {
      return BAD;
    }
    int was = takes[state][sign];
    takes[state][sign] = to;
    treesBehind.clear();
    return was;
  }

  private static int[] signs(int s, int from, int length) {
    int[] row = new int[length];
    for (int i = 0; i < length; i++) {
      row[i] = Seeds.signOf(s, from + i);
    }
    return row;
  }

  // The last sign of a row, u1 .. uT, is the first that a state goes through.
  private int behind(int[] row, int length, int state) {
    int at = state;
    for (int t = length; t >= 1; t--) {
      at = takes[at][row[t - 1]];
    }
    return at;
  }

  private int meetsIn(int[] row, int length) {
    int in = behind(row, length, 0);
    for (int z = 1; z < n; z++) {
      if (behind(row, length, z) != in) {
        return NONE;
      }
    }
    return in;
  }

  int taken(int s, int length, int state) {
    if (isOutside(length, 1, 4096) || isOutside(state, 0, n - 1)) {
      return BAD;
    }
    return behind(signs(s, 1, length), length, state);
  }

  int past(int s, int most) {
    if (isOutside(most, 1, 4096)) {
      return BAD;
    }
    for (int length = 1; length <= most; length *= 2) {
      int in = meetsIn(signs(s, 1, length), length);
      if (in != NONE) {
        return in;
      }
    }
    return NONE;
  }

  int fold(int s, int most) {
    if (isOutside(most, 1, 4096)) {
      return BAD;
    }
    int[] row = signs(s, 1, most);
    for (int length = 1; length <= most; length++) {
      if (meetsIn(row, length) != NONE) {
        return length;
      }
    }
    return NONE;
  }

  int bounding(int s, int most) {
    if (isOutside(most, 1, 64)) {
      return BAD;
    }
    for (int length = 1; length <= most; length++) {
      int[] bounds = {0, n - 1};
      for (int t = length; t >= 1; t--) {
        int sign = Seeds.signOf(s, t);
        bounds = Arrays.stream(takes, bounds[0], bounds[1] + 1).mapToInt(to -> to[sign]).sorted().toArray();
        bounds = new int[] {bounds[0], bounds[bounds.length - 1]};
      }
      if (bounds[0] == bounds[1]) {
        return length;
      }
    }
    return NONE;
  }

  int monotone() {
    for (int low = 0; low < n; low++) {
      for (int high = low + 1; high < n; high++) {
        for (int sign = 0; sign < 8; sign++) {
          if (takes[low][sign] > takes[high][sign]) {
            return 0;
          }
        }
      }
    }
    return 1;
  }

  int counted(int length, int state) {
    if (isOutside(length, 1, 5) || isOutside(state, -1, n - 1)) {
      return BAD;
    }
    int count = 0;
    int[] row = new int[length];
    for (int rows = 0; rows < 1 << 3 * length; rows++) {
      for (int i = 0; i < length; i++) {
        row[i] = rows >> 3 * i & 7;
      }
      if (meetsIn(row, length) == (state == -1 ? NONE : state)) {
        count++;
      }
    }
    return count;
  }

  long trees(int state) {
    if (isOutside(state, -1, n - 1)) {
      return BAD;
    }
    long all = 0;
    for (int z = 0; z < n; z++) {
      all += state == -1 || state == z ? treesBehind(1 << z, 1 << z) : 0;
    }
    return all;
  }

  // By how far states are from the root: some of those not there go to one of the farthest, then on.
  private long treesBehind(int there, int farthest) {
    if (there == (1 << n) - 1) {
      return 1;
    }
    Long known = treesBehind.get(there << n | farthest);
    if (known != null) {
      return known;
    }
    int open = ~there & (1 << n) - 1;
    long sum = 0;
    for (int next = open; next != 0; next = next - 1 & open) {
      long ways = waysInto(next, farthest);
      sum += ways == 0 ? 0 : ways * treesBehind(there | next, next);
    }
    treesBehind.put(there << n | farthest, sum);
    return sum;
  }

  private long waysInto(int from, int into) {
    long ways = 1;
    for (int z = 0; z < n; z++) {
      if ((from >> z & 1) != 0) {
        ways *= Arrays.stream(takes[z]).filter(to -> (into >> to & 1) != 0).count();
      }
    }
    return ways;
  }

  int once(int s, int length, int k) {
    if (isOutside(length, 1, 64) || isOutside(k, 0, 99)) {
      return BAD;
    }
    List<Integer> draws = new ArrayList<>();
    int there = NONE;
    for (int block = 0; block < 500; block++) {
      int[] inOrder = signs(s, length * block + 1, length);
      int[] turned = new int[length];
      for (int i = 0; i < length; i++) {
        turned[i] = inOrder[length - 1 - i];
      }
      int in = meetsIn(turned, length);
      if (there != NONE && in != NONE) {
        draws.add(there);
      }
      there = in != NONE ? in : there == NONE ? NONE : behind(turned, length, there);
    }
    return k < draws.size() ? draws.get(k) : NONE;
  }

  // ---- words

  int lead(int state, int letter, int to) {
    if (isOutside(state, 0, n - 1) || isOutside(letter, 0, 3) || to != NONE && isOutside(to, 0, n - 1)) {
      return BAD;
    }
    int was = leads[state][letter];
    leads[state][letter] = to;
    return was;
  }

  int end(int state, boolean is) {
    if (isOutside(state, 0, n - 1)) {
      return BAD;
    }
    int was = isEnd[state] ? 1 : 0;
    isEnd[state] = is;
    return was;
  }

  long words(int length) {
    return isOutside(length, 0, 25) ? BAD : ending(length, 0).longValueExact();
  }

  // How many words of a length lead from a state to an end: along how many ways of so many letters one is there.
  private BigInteger ending(int length, int from) {
    BigInteger[] ways = new BigInteger[n];
    Arrays.fill(ways, BigInteger.ZERO);
    ways[from] = BigInteger.ONE;
    for (int i = 0; i < length; i++) {
      BigInteger[] further = new BigInteger[n];
      Arrays.fill(further, BigInteger.ZERO);
      for (int z = 0; z < n; z++) {
        for (int to : leads[z]) {
          if (to != NONE) {
            further[to] = further[to].add(ways[z]);
          }
        }
      }
      ways = further;
    }
    BigInteger sum = BigInteger.ZERO;
    for (int z = 0; z < n; z++) {
      sum = isEnd[z] ? sum.add(ways[z]) : sum;
    }
    return sum;
  }

  int word(int length, long number, int i) {
    if (isOutside(length, 0, 25) || isOutside(number, 0, words(length) - 1) || isOutside(i, 0, length - 1)) {
      return BAD;
    }
    int state = 0;
    int letter = BAD;
    long ahead = number;
    for (int at = 0; at <= i; at++) {
      int next = NONE;
      for (letter = -1; next == NONE; ) {
        letter++;
        int to = leads[state][letter];
        long behind = to == NONE ? 0 : ending(length - 1 - at, to).longValueExact();
        if (ahead < behind) {
          next = to;
        } else {
          ahead -= behind;
        }
      }
      state = next;
    }
    return letter;
  }

  long rank(int length, long w) {
    if (isOutside(length, 0, 25)) {
      return BAD;
    }
    int state = 0;
    long less = 0;
    for (int at = 0; at < length; at++) {
      int letter = (int) (w >> 2 * at & 3);
      for (int lower = 0; lower < letter; lower++) {
        int to = leads[state][lower];
        less += to == NONE ? 0 : ending(length - 1 - at, to).longValueExact();
      }
      state = leads[state][letter];
      if (state == NONE) {
        return NONE;
      }
    }
    return isEnd[state] ? less : NONE;
  }

  // ---- permutations

  int allow(int place, int number, boolean is) {
    if (isOutside(place, 0, 7) || isOutside(number, 0, 7)) {
      return BAD;
    }
    int was = isAllowed[place][number] ? 1 : 0;
    isAllowed[place][number] = is;
    return was;
  }

  // Each as its numbers written one behind the other: texts of one length are in order as they are.
  private List<String> inOrder(int m) {
    List<String> all = List.of("");
    for (int place = 0; place < m; place++) {
      List<String> longer = new ArrayList<>();
      for (String start : all) {
        for (int number = 0; number < m; number++) {
          if (isAllowed[place][number] && !start.contains("" + number)) {
            longer.add(start + number);
          }
        }
      }
      all = longer;
    }
    return all;
  }

  int permutations(int m) {
    return isOutside(m, 1, 8) ? BAD : inOrder(m).size();
  }

  int permutation(int m, int number, int i) {
    if (isOutside(m, 1, 8) || isOutside(i, 0, m - 1)) {
      return BAD;
    }
    List<String> all = inOrder(m);
    return isOutside(number, 0, all.size() - 1) ? BAD : all.get(number).charAt(i) - '0';
  }

  int place(int m, int p) {
    if (isOutside(m, 1, 8)) {
      return BAD;
    }
    StringBuilder numbers = new StringBuilder();
    for (int i = 0; i < m; i++) {
      numbers.append(p >> 3 * i & 7);
    }
    int number = inOrder(m).indexOf(numbers.toString());
    return number == -1 ? NONE : number;
  }

  // ---- weights

  int things(int m) {
    if (isOutside(m, 1, 16)) {
      return BAD;
    }
    int was = weights.length;
    weights = new int[m];
    Arrays.fill(weights, 1);
    return was;
  }

  int weight(int thing, int w) {
    if (isOutside(thing, 0, weights.length - 1) || isOutside(w, 0, 1000)) {
      return BAD;
    }
    int was = weights[thing];
    weights[thing] = w;
    return was;
  }

  // Limit and other of each thing.
  private int[][] table() {
    int m = weights.length;
    int sum = Arrays.stream(weights).sum();
    int[] rest = Arrays.stream(weights).map(w -> m * w).toArray();
    int[][] cells = new int[m][];
    while (true) {
      int a = 0;
      while (a < m && (cells[a] != null || rest[a] >= sum)) {
        a++;
      }
      if (a == m) {
        break;
      }
      int b = 0;
      while (cells[b] != null || rest[b] <= sum) {
        b++;
      }
      cells[a] = new int[] {rest[a], b};
      rest[b] -= sum - rest[a];
    }
    for (int thing = 0; thing < m; thing++) {
      cells[thing] = cells[thing] == null ? new int[] {sum, thing} : cells[thing];
    }
    return cells;
  }

  int cell(int thing, int what) {
    if (isOutside(thing, 0, weights.length - 1) || isOutside(what, 0, 2)) {
      return BAD;
    }
    int sum = Arrays.stream(weights).sum();
    return sum == 0 ? NONE : what == 2 ? sum : table()[thing][what];
  }

  int tell(int v) {
    int sum = Arrays.stream(weights).sum();
    if (sum == 0) {
      return NONE;
    }
    if (isOutside(v, 0, weights.length * sum - 1)) {
      return BAD;
    }
    int[] cell = table()[v / sum];
    return v % sum < cell[0] ? v / sum : cell[1];
  }
}
