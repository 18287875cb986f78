import java.util.Arrays;

/**
 * A PastDraws for as many calls as a test likes. The document leaves free what an object answers after its
 * 512th call; so one that has had these is followed by a new one, which is told all that the old one was.
 */
final class Renewed {
  private static final int CALLS = 512;

  private final int states;
  private final int[][] rules;
  private final int[][] leads;
  private final boolean[] ends;
  private final boolean[][] allowed = new boolean[8][8];
  private int[] weights = {1};
  private PastDraws draws;
  private int calls = 0;

  /** Of a number of states from 1 to 12. */
  Renewed(int states) {
    this.states = states;
    rules = new int[states][8];
    leads = new int[states][4];
    ends = new boolean[states];
    for (int state = 0; state < states; state++) {
      Arrays.fill(rules[state], state);
      Arrays.fill(leads[state], PastDraws.NONE);
    }
    for (boolean[] row : allowed) {
      Arrays.fill(row, true);
    }
    draws = new PastDraws(states);
  }

  private PastDraws next() {
    if (calls == CALLS) {
      draws = new PastDraws(states);
      calls = 0;
      tellStates();
      tellOrders();
      tellWeights();
    }
    calls++;
    return draws;
  }

  private void tellStates() {
    for (int state = 0; state < states; state++) {
      for (int sign = 0; sign < 8; sign++) {
        if (rules[state][sign] != state) {
          next().rule(state, sign, rules[state][sign]);
        }
      }
      for (int letter = 0; letter < 4; letter++) {
        if (leads[state][letter] != PastDraws.NONE) {
          next().lead(state, letter, leads[state][letter]);
        }
      }
      if (ends[state]) {
        next().end(state, true);
      }
    }
  }

  private void tellOrders() {
    for (int place = 0; place < 8; place++) {
      for (int number = 0; number < 8; number++) {
        if (!allowed[place][number]) {
          next().allow(place, number, false);
        }
      }
    }
  }

  private void tellWeights() {
    if (weights.length != 1) {
      next().things(weights.length);
    }
    for (int thing = 0; thing < weights.length; thing++) {
      if (weights[thing] != 1) {
        next().weight(thing, weights[thing]);
      }
    }
  }

  int hash(int s, int t) {
    return next().hash(s, t);
  }

  long pick(int s, long n) {
    return next().pick(s, n);
  }

  int tries(int s, long n) {
    return next().tries(s, n);
  }

  int rule(int state, int sign, int to) {
    int was = next().rule(state, sign, to);
    if (was != PastDraws.BAD) {
      rules[state][sign] = to;
    }
    return was;
  }

  int taken(int s, int length, int state) {
    return next().taken(s, length, state);
  }

  int past(int s, int most) {
    return next().past(s, most);
  }

  int fold(int s, int most) {
    return next().fold(s, most);
  }

  int bounding(int s, int most) {
    return next().bounding(s, most);
  }

  int monotone() {
    return next().monotone();
  }

  int counted(int length, int state) {
    return next().counted(length, state);
  }

  long trees(int state) {
    return next().trees(state);
  }

  int once(int s, int length, int k) {
    return next().once(s, length, k);
  }

  int lead(int state, int letter, int to) {
    int was = next().lead(state, letter, to);
    if (was != PastDraws.BAD) {
      leads[state][letter] = to;
    }
    return was;
  }

  int end(int state, boolean is) {
    int was = next().end(state, is);
    if (was != PastDraws.BAD) {
      ends[state] = is;
    }
    return was;
  }

  long words(int length) {
    return next().words(length);
  }

  int word(int length, long number, int i) {
    return next().word(length, number, i);
  }

  long rank(int length, long w) {
    return next().rank(length, w);
  }

  int allow(int place, int number, boolean is) {
    int was = next().allow(place, number, is);
    if (was != PastDraws.BAD) {
      allowed[place][number] = is;
    }
    return was;
  }

  int permutations(int m) {
    return next().permutations(m);
  }

  int permutation(int m, int number, int i) {
    return next().permutation(m, number, i);
  }

  int place(int m, int p) {
    return next().place(m, p);
  }

  int things(int m) {
    int was = next().things(m);
    if (was != PastDraws.BAD) {
      weights = new int[m];
      Arrays.fill(weights, 1);
    }
    return was;
  }

  int weight(int thing, int w) {
    int was = next().weight(thing, w);
    if (was != PastDraws.BAD) {
      weights[thing] = w;
    }
    return was;
  }

  int cell(int thing, int what) {
    return next().cell(thing, what);
  }

  int tell(int v) {
    return next().tell(v);
  }
}
