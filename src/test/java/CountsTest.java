import java.math.BigInteger;
import java.util.Random;

/** Promises 11 and 12: rows counted one by one, trees by trying all signs and by an exact determinant. */
public final class CountsTest {
  private static final int BAD = PastDraws.BAD;

  private final Renewed draws;
  private final int n;
  private final int[][] rules;

  private CountsTest(int states) {
    draws = new Renewed(states);
    n = states;
    rules = new int[8][n];
    for (int sign = 0; sign < 8; sign++) {
      for (int state = 0; state < n; state++) {
        rules[sign][state] = state;
      }
    }
  }

  public static void main(String[] args) {
    for (int states = 1; states <= 12; states++) {
      for (int kind = 0; kind < 4; kind++) {
        CountsTest test = new CountsTest(states);
        test.rowsAndTrees();
        test.setRules(new Random(10 * states + kind), kind);
        test.rowsAndTrees();
        test.wrongNumbers();
      }
    }
    fullGraph();
    aCycle();
    Check.finish();
  }

  // Kind 0: any; 1: few other states; 2: each state goes out by all signs; 3: down to few states.
  private void setRules(Random random, int kind) {
    for (int sign = 0; sign < 8; sign++) {
      for (int state = 0; state < n; state++) {
        int to = random.nextInt(n);
        if (kind == 1 && random.nextInt(3) != 0) {
          to = state;
        } else if (kind == 2) {
          to = (state + 1 + random.nextInt(Math.max(1, n - 1))) % n;
        } else if (kind == 3) {
          to = random.nextInt(state + 1);
        }
        draws.rule(state, sign, to);
        rules[sign][state] = to;
      }
    }
  }

  private void rowsAndTrees() {
    for (int length = 1; length <= (n % 4 == 0 ? 5 : 4); length++) {
      int[] counts = rowsCounted(length);
      for (int state = -1; state < n; state++) {
        Check.due("counted(" + length + ", " + state + ") of " + n, draws.counted(length, state), counts[state + 1]);
      }
    }
    long all = 0;
    for (int root = 0; root < n; root++) {
      long due = treesByDeterminant(root);
      if (n <= 5) {
        Check.due("the determinant itself", due, treesTried(root));
      }
      Check.due("trees(" + root + ") of " + n, draws.trees(root), due);
      all += due;
    }
    Check.due("trees(-1) of " + n, draws.trees(-1), all);
  }

  private int[] rowsCounted(int length) {
    int[] counts = new int[n + 1];
    for (int row = 0; row < 1 << 3 * length; row++) {
      int in = -2;
      for (int state = 0; state < n; state++) {
        int at = state;
        for (int i = 0; i < length; i++) {
          at = rules[row >> 3 * i & 7][at];
        }
        in = in == -2 || in == at ? at : -1;
      }
      counts[in + 1]++;
    }
    return counts;
  }

  private long treesTried(int root) {
    long trees = 0;
    for (int signs = 0; signs < 1 << 3 * (n - 1); signs++) {
      boolean allCome = true;
      for (int state = 0; state < n && allCome; state++) {
        int at = state;
        for (int i = 0; i < n && at != root; i++) {
          at = rules[signs >> 3 * (at < root ? at : at - 1) & 7][at];
        }
        allCome = at == root;
      }
      trees += allCome ? 1 : 0;
    }
    return trees;
  }

  // By sets of columns, so that nothing is divided.
  private long treesByDeterminant(int root) {
    BigInteger[] minors = new BigInteger[1 << n];
    minors[0] = BigInteger.ONE;
    for (int columns = 1; columns < 1 << n; columns++) {
      minors[columns] = BigInteger.ZERO;
      int row = Integer.bitCount(columns) - 1;
      int state = row < root ? row : row + 1;
      if ((columns >> root & 1) != 0 || state >= n) {
        continue;
      }
      for (int column = 0; column < n; column++) {
        if ((columns >> column & 1) != 0) {
          int behind = Integer.bitCount(columns >> column + 1);
          BigInteger part = minors[columns & ~(1 << column)].multiply(BigInteger.valueOf(entry(state, column)));
          minors[columns] = minors[columns].add(behind % 2 == 0 ? part : part.negate());
        }
      }
    }
    return minors[(1 << n) - 1 & ~(1 << root)].longValueExact();
  }

  private int entry(int state, int column) {
    int entry = 0;
    for (int[] rule : rules) {
      int to = rule[state];
      if (to != state) {
        entry += column == state ? 1 : column == to ? -1 : 0;
      }
    }
    return entry;
  }

  private void wrongNumbers() {
    int[] wrongStates = {-2, n, Integer.MIN_VALUE, Integer.MAX_VALUE};
    for (int wrong : wrongStates) {
      Check.due("counted(1, " + wrong + ")", draws.counted(1, wrong), BAD);
      Check.due("trees(" + wrong + ")", draws.trees(wrong), BAD);
    }
    int[] wrongLengths = {0, -1, 6, Integer.MIN_VALUE, Integer.MAX_VALUE};
    for (int wrong : wrongLengths) {
      Check.due("counted(" + wrong + ", 0)", draws.counted(wrong, 0), BAD);
      Check.due("counted(" + wrong + ", -1)", draws.counted(wrong, -1), BAD);
    }
  }

  // Each of nine states goes to each other one by one sign: 9 to the 7th trees to each.
  private static void fullGraph() {
    PastDraws draws = new PastDraws(9);
    for (int state = 0; state < 9; state++) {
      for (int sign = 0; sign < 8; sign++) {
        draws.rule(state, sign, (state + 1 + sign) % 9);
      }
    }
    for (int state = 0; state < 9; state++) {
      Check.due("trees of the full graph", draws.trees(state), 4782969);
    }
    Check.due("all of them", draws.trees(-1), 9 * 4782969L);
  }

  // The most trees there can be: all signs lead on around.
  private static void aCycle() {
    PastDraws draws = new PastDraws(12);
    for (int state = 0; state < 12; state++) {
      for (int sign = 0; sign < 8; sign++) {
        draws.rule(state, sign, (state + 1) % 12);
      }
    }
    Check.due("trees(0) of a cycle", draws.trees(0), 1L << 33);
    Check.due("trees(11) of a cycle", draws.trees(11), 1L << 33);
    Check.due("trees(-1) of a cycle", draws.trees(-1), 12L << 33);
    Check.due("counted(5, -1) of a cycle", draws.counted(5, -1), 32768);
  }
}
