import java.util.ArrayList;
import java.util.List;

/** The chain as the document tells it, each ROW and each block gone through from its start. */
final class ChainModel {
  static final int NONE = PastDraws.NONE;

  final int n;
  final int[][] rules;

  ChainModel(int states) {
    n = states;
    rules = new int[8][n];
    for (int sign = 0; sign < 8; sign++) {
      for (int state = 0; state < n; state++) {
        rules[sign][state] = state;
      }
    }
  }

  /** A new object that has been told these rules, by 8 calls a state at most. */
  PastDraws told() {
    PastDraws draws = new PastDraws(n);
    for (int sign = 0; sign < 8; sign++) {
      for (int state = 0; state < n; state++) {
        if (rules[sign][state] != state) {
          Check.due("rule(" + state + ", " + sign + ", ..)", draws.rule(state, sign, rules[sign][state]), state);
        }
      }
    }
    return draws;
  }

  boolean keepsOrder() {
    for (int[] rule : rules) {
      for (int low = 0; low < n; low++) {
        for (int high = low + 1; high < n; high++) {
          if (rule[low] > rule[high]) {
            return false;
          }
        }
      }
    }
    return true;
  }

  int takenTo(int s, int length, int state) {
    int at = state;
    for (int t = length; t >= 1; t--) {
      at = rules[Seeds.signOf(s, t)][at];
    }
    return at;
  }

  int meetsIn(int s, int length) {
    int first = takenTo(s, length, 0);
    for (int state = 1; state < n; state++) {
      if (takenTo(s, length, state) != first) {
        return NONE;
      }
    }
    return first;
  }

  boolean boundsAreLike(int s, int length) {
    int lower = 0;
    int upper = n - 1;
    for (int t = length; t >= 1; t--) {
      int least = n;
      int greatest = -1;
      for (int state = lower; state <= upper; state++) {
        least = Math.min(least, rules[Seeds.signOf(s, t)][state]);
        greatest = Math.max(greatest, rules[Seeds.signOf(s, t)][state]);
      }
      lower = least;
      upper = greatest;
    }
    return lower == upper;
  }

  int throughBlock(int s, int length, int block, int state) {
    int at = state;
    for (int i = 1; i <= length; i++) {
      at = rules[Seeds.signOf(s, length * block + i)][at];
    }
    return at;
  }

  boolean blockMeets(int s, int length, int block) {
    for (int state = 1; state < n; state++) {
      if (throughBlock(s, length, block, state) != throughBlock(s, length, block, 0)) {
        return false;
      }
    }
    return true;
  }

  List<Integer> drawsOf(int s, int length) {
    List<Integer> all = new ArrayList<>();
    int there = NONE;
    for (int block = 0; block < 500; block++) {
      boolean meets = blockMeets(s, length, block);
      if (there != NONE) {
        if (meets) {
          all.add(there);
        }
        there = throughBlock(s, length, block, there);
      } else if (meets) {
        there = throughBlock(s, length, block, 0);
      }
    }
    return all;
  }
}
