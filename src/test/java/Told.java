/** All that an object of a number of states can be told, told to a new one, and looked up again in it. */
final class Told {
  private static final int NONE = PastDraws.NONE;
  private static final int LEADS = 4;
  private static final int SIGNS = 8;

  final int n;
  final int[] weights;

  Told(int states, int... weights) {
    n = states;
    this.weights = weights;
  }

  private int ruleOf(int state, int sign) {
    return (state * 3 + sign * 5 + 1) % n;
  }

  private int leadOf(int state, int letter) {
    return (state + letter) % 3 == 2 ? NONE : (state + 2 * letter + 1) % n;
  }

  private boolean isEnd(int state) {
    return state % 2 == 1 || n == 1;
  }

  private boolean isAllowed(int place, int number) {
    return (place * 3 + number * 5) % 4 != 1;
  }

  /** A new object that has been told all; it has had 226 calls at most for up to five things. */
  PastDraws make() {
    PastDraws draws = new PastDraws(n);
    for (int state = 0; state < n; state++) {
      for (int sign = 0; sign < SIGNS; sign++) {
        draws.rule(state, sign, ruleOf(state, sign));
      }
      for (int letter = 0; letter < LEADS; letter++) {
        draws.lead(state, letter, leadOf(state, letter));
      }
      draws.end(state, isEnd(state));
    }
    for (int place = 0; place < 8; place++) {
      for (int number = 0; number < 8; number++) {
        draws.allow(place, number, isAllowed(place, number));
      }
    }
    draws.things(weights.length);
    for (int thing = 0; thing < weights.length; thing++) {
      draws.weight(thing, weights[thing]);
    }
    return draws;
  }

  /** Looks all up by telling the object something else: it is of no more use then. */
  void allThere(String after, PastDraws draws) {
    for (int state = 0; state < n; state++) {
      for (int sign = 0; sign < SIGNS; sign++) {
        Check.due("rule(" + state + ", " + sign + ", 0) " + after, draws.rule(state, sign, 0), ruleOf(state, sign));
      }
      for (int letter = 0; letter < LEADS; letter++) {
        Check.due("lead(" + state + ", " + letter + ", 0) " + after, draws.lead(state, letter, 0), leadOf(state, letter));
      }
      Check.due("end(" + state + ", true) " + after, draws.end(state, true), isEnd(state) ? 1 : 0);
    }
    for (int place = 0; place < 8; place++) {
      for (int number = 0; number < 8; number++) {
        Check.due("allow(" + place + ", " + number + ", true) " + after, draws.allow(place, number, true),
            isAllowed(place, number) ? 1 : 0);
      }
    }
    for (int thing = 0; thing < weights.length; thing++) {
      Check.due("weight(" + thing + ", 0) " + after, draws.weight(thing, 0), weights[thing]);
    }
    Check.due("things(1) " + after, draws.things(1), weights.length);
  }

  /** The same for a new object that has been told nothing. */
  static void nothingThere(String after, int n, PastDraws draws) {
    for (int state = 0; state < n; state++) {
      for (int sign = 0; sign < SIGNS; sign++) {
        Check.due("rule(" + state + ", " + sign + ", 0) " + after, draws.rule(state, sign, 0), state);
      }
      for (int letter = 0; letter < LEADS; letter++) {
        Check.due("lead(" + state + ", " + letter + ", 0) " + after, draws.lead(state, letter, 0), NONE);
      }
      Check.due("end(" + state + ", true) " + after, draws.end(state, true), 0);
    }
    for (int place = 0; place < 8; place++) {
      for (int number = 0; number < 8; number++) {
        Check.due("allow(" + place + ", " + number + ", true) " + after, draws.allow(place, number, true), 1);
      }
    }
    Check.due("weight(0, 0) " + after, draws.weight(0, 0), 1);
    Check.due("things(1) " + after, draws.things(1), 1);
  }
}
