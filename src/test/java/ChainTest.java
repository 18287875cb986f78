import java.util.List;
import java.util.Random;

/** Promises 1, 5 to 10 and 13: the chain, against the document's words read from scratch for each row. */
public final class ChainTest {
  private static final int BAD = PastDraws.BAD;
  private static final int NONE = PastDraws.NONE;

  private final Renewed draws;
  private final int n;
  private final ChainModel model;

  private ChainTest(int states) {
    draws = new Renewed(states);
    n = states;
    model = new ChainModel(n);
  }

  public static void main(String[] args) {
    howManyStates();
    for (int states = 1; states <= 12; states++) {
      for (int kind = 0; kind < 3; kind++) {
        ChainTest test = new ChainTest(states);
        test.untouched();
        test.setRules(new Random(100 * states + kind), kind);
        test.rowsOfThePast(31 * states + kind);
        test.blocks(17 * states + kind);
        test.wrongNumbers();
      }
    }
    longRows();
    orders();
    boundsThatMeetNot();
    Check.finish();
  }

  private static void howManyStates() {
    int[][] told = {{1, 1}, {0, 1}, {-1, 1}, {Integer.MIN_VALUE, 1}, {2, 2}, {11, 11}, {12, 12}, {13, 12},
        {Integer.MAX_VALUE, 12}};
    for (int[] pair : told) {
      PastDraws draws = new PastDraws(pair[0]);
      Check.due("of " + pair[0] + ": taken the last", draws.taken(1, 1, pair[1] - 1), pair[1] - 1);
      Check.due("of " + pair[0] + ": taken one more", draws.taken(1, 1, pair[1]), BAD);
      Check.due("of " + pair[0] + ": end the last", draws.end(pair[1] - 1, true), 0);
      Check.due("of " + pair[0] + ": end one more", draws.end(pair[1], true), BAD);
    }
  }

  private void untouched() {
    Check.due("monotone() at first", draws.monotone(), 1);
    for (int state = 0; state < n; state++) {
      Check.due("taken at first", draws.taken(9, 37, state), state);
    }
    Check.due("past at first", draws.past(9, 4096), n == 1 ? 0 : NONE);
    Check.due("fold at first", draws.fold(9, 4096), n == 1 ? 1 : NONE);
    Check.due("bounding at first", draws.bounding(9, 64), n == 1 ? 1 : NONE);
    Check.due("once at first", draws.once(9, 3, 99), n == 1 ? 0 : NONE);
  }

  // Kind 0: any steps; 1: steps up and down, which keep the order; 2: seldom other than the state itself.
  private void setRules(Random random, int kind) {
    for (int sign = 0; sign < 8; sign++) {
      for (int state = 0; state < n; state++) {
        int to = random.nextInt(n);
        if (kind == 1) {
          to = Math.max(0, Math.min(n - 1, state + (sign < 5 ? 1 : -1)));
        } else if (kind == 2 && random.nextInt(4) != 0) {
          to = state;
        }
        Check.due("rule(" + state + ", " + sign + ", " + to + ")", draws.rule(state, sign, to), model.rules[sign][state]);
        model.rules[sign][state] = to;
      }
    }
    Check.due("monotone()", draws.monotone(), model.keepsOrder() ? 1 : 0);
  }

  private void rowsOfThePast(int seeds) {
    for (int s = seeds; s < seeds + 12; s++) {
      for (int state = 0; state < n; state++) {
        for (int length = 1; length <= 300; length = length * 2 + 1) {
          Check.due("taken(" + s + ", " + length + ", " + state + ")", draws.taken(s, length, state),
              model.takenTo(s, length, state));
        }
      }
      int[] mosts = {1, 2, 3, 4, 5, 7, 8, 15, 16, 31, 32, 63, 64};
      for (int most : mosts) {
        pastFoldBounding(s, most);
      }
    }
  }

  private void pastFoldBounding(int s, int most) {
    int past = NONE;
    for (int length = 1; length <= most && past == NONE; length *= 2) {
      past = model.meetsIn(s, length);
    }
    int fold = NONE;
    int bounding = NONE;
    for (int length = most; length >= 1; length--) {
      fold = model.meetsIn(s, length) == NONE ? fold : length;
      bounding = model.boundsAreLike(s, length) ? length : bounding;
    }
    String told = "(" + s + ", " + most + ") of " + n;
    Check.due("past" + told, draws.past(s, most), past);
    Check.due("fold" + told, draws.fold(s, most), fold);
    Check.due("bounding" + told, draws.bounding(s, most), bounding);
  }

  private void blocks(int s) {
    int[] lengths = {1, 2, 3, 4, 5, 6, 8, 13, 32, 64};
    for (int length : lengths) {
      List<Integer> all = model.drawsOf(s, length);
      for (int k = 0; k < 100; k += k < 10 ? 1 : 7) {
        Check.due("once(" + s + ", " + length + ", " + k + ") of " + n, draws.once(s, length, k),
            k < all.size() ? all.get(k) : NONE);
      }
      Check.due("once(" + s + ", " + length + ", 99) of " + n, draws.once(s, length, 99),
          all.size() > 99 ? all.get(99) : NONE);
      int last = Math.min(all.size(), 100) - 1;
      if (last >= 0) {
        Check.due("the last of once(" + s + ", " + length + ")", draws.once(s, length, last), all.get(last));
      }
    }
  }

  private void wrongNumbers() {
    int[][] wrongRules = {{-1, 0, 0}, {n, 0, 0}, {0, -1, 0}, {0, 8, 0}, {0, 0, -1}, {0, 0, -2}, {0, 0, n},
        {Integer.MIN_VALUE, 0, 0}, {0, Integer.MAX_VALUE, 0}, {0, 0, Integer.MAX_VALUE}, {-1, -1, -1}};
    for (int[] wrong : wrongRules) {
      Check.due("rule of a wrong number", draws.rule(wrong[0], wrong[1], wrong[2]), BAD);
    }
    for (int sign = 0; sign < 8; sign++) {
      for (int state = 0; state < n; state++) {
        Check.due("rule unchanged", draws.rule(state, sign, model.rules[sign][state]), model.rules[sign][state]);
      }
    }
    int[] wrongMosts = {0, -1, Integer.MIN_VALUE, 4097, Integer.MAX_VALUE};
    for (int wrong : wrongMosts) {
      Check.due("taken(1, " + wrong + ", 0)", draws.taken(1, wrong, 0), BAD);
      Check.due("past(1, " + wrong + ")", draws.past(1, wrong), BAD);
      Check.due("fold(1, " + wrong + ")", draws.fold(1, wrong), BAD);
      Check.due("bounding(1, " + wrong + ")", draws.bounding(1, wrong), BAD);
      Check.due("once(1, " + wrong + ", 0)", draws.once(1, wrong, 0), BAD);
    }
    int[] wrongDraws = {-1, Integer.MIN_VALUE, 100, Integer.MAX_VALUE};
    for (int wrong : wrongDraws) {
      Check.due("once(1, 1, " + wrong + ")", draws.once(1, 1, wrong), BAD);
    }
    Check.due("bounding(1, 65)", draws.bounding(1, 65), BAD);
    Check.due("once(1, 65, 0)", draws.once(1, 65, 0), BAD);
    Check.due("taken(1, 1, -1)", draws.taken(1, 1, -1), BAD);
    Check.due("taken(1, 1, n)", draws.taken(1, 1, n), BAD);
    Check.due("taken(1, 1, least)", draws.taken(1, 1, Integer.MIN_VALUE), BAD);
  }

  // One sign takes one state of twelve on, so that rows must be long to meet.
  private static void longRows() {
    ChainTest test = new ChainTest(12);
    for (int state = 0; state < 12; state++) {
      test.ruleBoth(state, state % 8, Math.max(0, state - 1));
    }
    test.ruleBoth(0, 7, 1);
    for (int s = 0; s < 6; s++) {
      int least = 1;
      while (least <= 4096 && test.model.meetsIn(s, least) == NONE) {
        least++;
      }
      Check.holds("a long row meets, " + least, least > 32 && least < 2048);
      int power = Integer.highestOneBit(least - 1) * 2;
      Check.due("fold(" + s + ", 4096)", test.draws.fold(s, 4096), least);
      Check.due("fold(" + s + ", least)", test.draws.fold(s, least), least);
      Check.due("fold(" + s + ", least - 1)", test.draws.fold(s, least - 1), NONE);
      Check.due("past(" + s + ", 4096)", test.draws.past(s, 4096), test.model.meetsIn(s, power));
      Check.due("past(" + s + ", power)", test.draws.past(s, power), test.model.meetsIn(s, power));
      Check.due("past(" + s + ", power - 1)", test.draws.past(s, power - 1), NONE);
      Check.due("taken(" + s + ", 4096, 11)", test.draws.taken(s, 4096, 11), test.model.takenTo(s, 4096, 11));
    }
  }

  private void ruleBoth(int state, int sign, int to) {
    Check.due("rule(" + state + ", " + sign + ", " + to + ")", draws.rule(state, sign, to), model.rules[sign][state]);
    model.rules[sign][state] = to;
  }

  private static void orders() {
    PastDraws draws = new PastDraws(4);
    draws.rule(0, 7, 3);
    Check.due("monotone(), 0 above 1", draws.monotone(), 0);
    draws.rule(1, 7, 3);
    draws.rule(2, 7, 3);
    Check.due("monotone(), like ones", draws.monotone(), 1);
    draws.rule(3, 0, 1);
    Check.due("monotone(), 3 below 2", draws.monotone(), 0);
    draws.rule(2, 0, 1);
    Check.due("monotone(), again", draws.monotone(), 1);
  }

  // All states meet, but the states between the bounds keep these apart.
  private static void boundsThatMeetNot() {
    PastDraws draws = new PastDraws(3);
    for (int sign = 0; sign < 8; sign++) {
      draws.rule(0, sign, 2);
      draws.rule(1, sign, 0);
      draws.rule(2, sign, 2);
    }
    Check.due("fold", draws.fold(4, 64), 2);
    Check.due("past", draws.past(4, 64), 2);
    Check.due("bounding", draws.bounding(4, 64), NONE);
  }
}
