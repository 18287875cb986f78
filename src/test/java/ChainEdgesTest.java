import java.util.Arrays;

/** THE CHAIN and promises 1 and 5 to 10: each sentence that names a boundary, with a test of its own. */
public final class ChainEdgesTest {
  private static final int BAD = PastDraws.BAD;
  private static final int NONE = PastDraws.NONE;
  private static final int LEAST = Integer.MIN_VALUE;
  private static final int MOST = Integer.MAX_VALUE;
  private static final int[] SEEDS = {0, 1, -1, LEAST, MOST};

  public static void main(String[] args) {
    nearestNumberOfStates();
    atFirstToItself();
    toWhichItDid();
    statesAndSignsThatThereAre();
    lastSignFirst();
    pastBeginsAtOne();
    nothingElseIsRead();
    eachSeedAnew();
    takenLengths();
    takesAllStates();
    powersUpToMost();
    pastAtTheEnd();
    pastLimits();
    foldUpToMost();
    foldLimits();
    boundsAtFirst();
    boundsBetween();
    boundingUpToMost();
    boundingLimits();
    likeOrGreater();
    oneState();
    Check.finish();
  }

  private static void nearestNumberOfStates() {
    Check.sentence("Promise 1: n: 1 .. 12, others as the nearest");
    int[][] told = {{1, 1}, {0, 1}, {-1, 1}, {-2, 1}, {LEAST, 1}, {2, 2}, {11, 11}, {12, 12}, {13, 12}, {14, 12},
        {1 << 16, 12}, {MOST, 12}};
    for (int[] pair : told) {
      PastDraws draws = new PastDraws(pair[0]);
      int last = pair[1] - 1;
      String of = " of " + pair[0];
      Check.due("rule(last, 7, last)" + of, draws.rule(last, 7, last), last);
      Check.due("rule(last + 1, 7, 0)" + of, draws.rule(last + 1, 7, 0), BAD);
      Check.due("rule(0, 7, last + 1)" + of, draws.rule(0, 7, last + 1), BAD);
      Check.due("taken(1, 1, last)" + of, draws.taken(1, 1, last), last);
      Check.due("taken(1, 1, last + 1)" + of, draws.taken(1, 1, last + 1), BAD);
      Check.due("counted(1, last)" + of, draws.counted(1, last), last == 0 ? 8 : 0);
      Check.due("counted(1, last + 1)" + of, draws.counted(1, last + 1), BAD);
      Check.due("trees(last)" + of, draws.trees(last), last == 0 ? 1 : 0);
      Check.due("trees(last + 1)" + of, draws.trees(last + 1), BAD);
      Check.due("lead(last, 3, last)" + of, draws.lead(last, 3, last), NONE);
      Check.due("lead(last + 1, 3, 0)" + of, draws.lead(last + 1, 3, 0), BAD);
      Check.due("lead(0, 3, last + 1)" + of, draws.lead(0, 3, last + 1), BAD);
      Check.due("end(last, true)" + of, draws.end(last, true), 0);
      Check.due("end(last + 1, true)" + of, draws.end(last + 1, true), BAD);
    }
  }

  private static void atFirstToItself() {
    Check.sentence("each SIGN u takes each STATE to one (at first to itself)");
    for (int n = 1; n <= 12; n++) {
      PastDraws draws = new PastDraws(n);
      for (int state = 0; state < n; state++) {
        Check.due("taken(3, 40, state)", draws.taken(3, 40, state), state);
        for (int sign = 0; sign < 8; sign++) {
          Check.due("rule(" + state + ", " + sign + ", 0)", draws.rule(state, sign, 0), state);
        }
      }
    }
  }

  private static void toWhichItDid() {
    Check.sentence("Promise 5: A SIGN takes a STATE to another one: to which it did");
    PastDraws draws = new PastDraws(12);
    int s = Seeds.seedWithSigns(7);
    Check.due("rule(11, 7, 0)", draws.rule(11, 7, 0), 11);
    Check.due("taken(s, 1, 11)", draws.taken(s, 1, 11), 0);
    Check.due("rule(11, 7, 0) again", draws.rule(11, 7, 0), 0);
    Check.due("rule(11, 7, 11), back to itself", draws.rule(11, 7, 11), 0);
    Check.due("taken(s, 1, 11) again", draws.taken(s, 1, 11), 11);
    Check.due("rule(11, 0, 5), another sign", draws.rule(11, 0, 5), 11);
    Check.due("rule(0, 7, 5), another state", draws.rule(0, 7, 5), 0);
    Check.due("rule(11, 7, 3)", draws.rule(11, 7, 3), 11);
  }

  private static void statesAndSignsThatThereAre() {
    Check.sentence("Promise 5: BAD");
    for (int n = 1; n <= 12; n++) {
      PastDraws draws = new PastDraws(n);
      int[] wrongStates = {-1, -2, n, n + 1, 12, LEAST, MOST};
      for (int wrong : wrongStates) {
        Check.due("rule(" + wrong + ", 0, 0) of " + n, draws.rule(wrong, 0, 0), BAD);
        Check.due("rule(0, 0, " + wrong + ") of " + n, draws.rule(0, 0, wrong), BAD);
      }
      int[] wrongSigns = {-1, -2, 8, 9, LEAST, MOST};
      for (int wrong : wrongSigns) {
        Check.due("rule(0, " + wrong + ", 0) of " + n, draws.rule(0, wrong, 0), BAD);
      }
      for (int sign = 0; sign < 8; sign += 7) {
        Check.due("rule(n - 1, " + sign + ", 0) of " + n, draws.rule(n - 1, sign, 0), n - 1);
        Check.due("rule(0, " + sign + ", n - 1) of " + n, draws.rule(0, sign, n - 1), 0);
      }
    }
  }

  // Sign 2 takes 0 to 1, sign 5 takes 1 to 2: only 2 ahead of 5 takes 0 to 2.
  private static void lastSignFirst() {
    Check.sentence("A ROW of SIGNS u1 .. uT takes a STATE through uT first, then uT-1, .., u1 at last");
    ChainModel model = new ChainModel(3);
    model.rules[2][0] = 1;
    model.rules[5][1] = 2;
    PastDraws draws = model.told();
    Check.due("taken, u1 5 and u2 2", draws.taken(Seeds.seedWithSigns(5, 2), 2, 0), 2);
    Check.due("taken, u1 2 and u2 5", draws.taken(Seeds.seedWithSigns(2, 5), 2, 0), 1);
    Check.due("taken, u1 5, 0, u3 2", draws.taken(Seeds.seedWithSigns(5, 0, 2), 3, 0), 2);
    Check.due("taken, u1 2, 0, u3 5", draws.taken(Seeds.seedWithSigns(2, 0, 5), 3, 0), 1);
  }

  private static void pastBeginsAtOne() {
    Check.sentence("u at t is the SIGN of HASH(s, t), t = 1, 2, ..; its ROW of T is u1 .. uT");
    for (int s = 0; s < 60; s++) {
      int first = Seeds.signOf(s, 1);
      ChainModel model = new ChainModel(2);
      model.rules[first][0] = 1;
      PastDraws draws = model.told();
      Check.due("taken(" + s + ", 1, 0)", draws.taken(s, 1, 0), 1);
      Check.due("rule(0, first, 0)", draws.rule(0, first, 0), 1);
      for (int sign = 0; sign < 8; sign++) {
        draws.rule(0, sign, sign == first ? 0 : 1);
      }
      Check.due("taken(" + s + ", 1, 0) by the others", draws.taken(s, 1, 0), 0);
    }
  }

  // Sign 6 takes all to 0, and stands just where a row of one must not look: at t = 0 and at t = 2.
  private static void nothingElseIsRead() {
    Check.sentence("its ROW of T is u1 .. uT: neither u0 nor a later one");
    ChainModel model = new ChainModel(4);
    Arrays.fill(model.rules[6], 0);
    PastDraws draws = model.told();
    int found = 0;
    for (int s = 0; found < 20; s++) {
      boolean isNear = Seeds.signOf(s, 0) == 6 || Seeds.signOf(s, 2) == 6;
      if (isNear && Seeds.signOf(s, 1) != 6) {
        found++;
        Check.due("taken(" + s + ", 1, 3)", draws.taken(s, 1, 3), 3);
        Check.due("past(" + s + ", 1)", draws.past(s, 1), NONE);
        Check.due("fold(" + s + ", 1)", draws.fold(s, 1), NONE);
        Check.due("bounding(" + s + ", 1)", draws.bounding(s, 1), NONE);
      }
    }
  }

  // A call leaves nothing behind for the next one: sign 0 takes all to 1, and all others none.
  private static void eachSeedAnew() {
    Check.sentence("THE PAST of a seed s: what another seed's did counts for nothing");
    ChainModel model = new ChainModel(2);
    model.rules[0][0] = 1;
    PastDraws draws = model.told();
    int meets = Seeds.seedWithSigns(0, 3);
    int stays = Seeds.seedWithSigns(3, 3);
    for (int turn = 0; turn < 2; turn++) {
      Check.due("fold(meets, 1)", draws.fold(meets, 1), 1);
      Check.due("fold(stays, 1)", draws.fold(stays, 1), NONE);
      Check.due("past(meets, 2)", draws.past(meets, 2), 1);
      Check.due("past(stays, 2)", draws.past(stays, 2), NONE);
      Check.due("bounding(meets, 1)", draws.bounding(meets, 1), 1);
      Check.due("bounding(stays, 1)", draws.bounding(stays, 1), NONE);
      Check.due("taken(meets, 1, 0)", draws.taken(meets, 1, 0), 1);
      Check.due("taken(stays, 1, 0)", draws.taken(stays, 1, 0), 0);
    }
  }

  private static void takenLengths() {
    Check.sentence("Promise 6: T long (1 .. 4096)");
    ChainModel model = ring();
    PastDraws draws = model.told();
    for (int s : SEEDS) {
      int[] lengths = {1, 2, 4095, 4096};
      for (int length : lengths) {
        Check.due("taken(" + s + ", " + length + ", 0)", draws.taken(s, length, 0), model.takenTo(s, length, 0));
        Check.due("taken(" + s + ", " + length + ", 11)", draws.taken(s, length, 11), model.takenTo(s, length, 11));
      }
      int[] wrongLengths = {0, -1, -2, LEAST, 4097, 4098, 8192, MOST};
      for (int length : wrongLengths) {
        Check.due("taken(" + s + ", " + length + ", 0)", draws.taken(s, length, 0), BAD);
      }
      int[] wrongStates = {-1, -2, 12, 13, LEAST, MOST};
      for (int state : wrongStates) {
        Check.due("taken(" + s + ", 1, " + state + ")", draws.taken(s, 1, state), BAD);
        Check.due("taken(" + s + ", 4096, " + state + ")", draws.taken(s, 4096, state), BAD);
      }
    }
  }

  /** Twelve states round and back, and only sign 7 takes two to one: its rows meet late. */
  private static ChainModel ring() {
    ChainModel model = new ChainModel(12);
    for (int state = 0; state < 12; state++) {
      model.rules[0][state] = (state + 1) % 12;
      model.rules[1][state] = (state + 11) % 12;
    }
    model.rules[7][0] = 1;
    return model;
  }

  private static void takesAllStates() {
    Check.sentence("A ROW MEETS in a STATE, if it takes all STATES to that one");
    int s = Seeds.seedWithSigns(3);
    for (int n = 2; n <= 12; n++) {
      for (int apart = 0; apart < n; apart++) {
        int to = apart == n / 2 ? 0 : n / 2;
        ChainModel model = new ChainModel(n);
        Arrays.fill(model.rules[3], to);
        model.rules[3][apart] = apart == to ? (to + 1) % n : apart;
        PastDraws draws = model.told();
        String told = " of " + n + ", all but " + apart;
        Check.due("fold(s, 1)" + told, draws.fold(s, 1), NONE);
        Check.due("past(s, 1)" + told, draws.past(s, 1), NONE);
        Check.due("counted(1, to)" + told, draws.counted(1, to), 0);
        draws.rule(apart, 3, to);
        Check.due("fold(s, 1), then all" + told, draws.fold(s, 1), 1);
        Check.due("past(s, 1), then all" + told, draws.past(s, 1), to);
        Check.due("counted(1, to), then all" + told, draws.counted(1, to), 1);
      }
    }
  }

  // Sign 4 takes each state one down, all others none: n states meet at the (n - 1)th sign 4.
  private static void powersUpToMost() {
    Check.sentence("Promise 7: The least T of 1, 2, 4, 8, .. up to most whose ROW MEETS");
    for (int n = 2; n <= 7; n++) {
      ChainModel model = new ChainModel(n);
      for (int state = 1; state < n; state++) {
        model.rules[4][state] = state - 1;
      }
      PastDraws draws = model.told();
      int[] signs = new int[n - 1];
      Arrays.fill(signs, 4);
      int s = Seeds.seedWithSigns(signs);
      int power = 1;
      while (power < n - 1) {
        power *= 2;
      }
      for (int most = 1; most <= 16; most++) {
        Check.due("past(s, " + most + ") of " + n, draws.past(s, most), most < power ? NONE : 0);
        Check.due("fold(s, " + most + ") of " + n, draws.fold(s, most), most < n - 1 ? NONE : n - 1);
      }
    }
  }

  private static int leastFold(ChainModel model, int s, int near) {
    Check.due("no row of " + (near - 1) + " meets", model.meetsIn(s, near - 1), NONE);
    Check.holds("the row of " + near + " meets", model.meetsIn(s, near) != NONE);
    return near;
  }

  // Seeds found by trying: their rows of the ring meet first at just these lengths.
  private static void pastAtTheEnd() {
    Check.sentence("Promise 7: up to most (1 .. 4096)");
    ChainModel model = ring();
    PastDraws draws = model.told();
    int[][] seedAndFold = {{10708, 2048}, {2475, 2049}, {53207, 4095}, {2758, 4096}, {12724, 4097}};
    for (int[] pair : seedAndFold) {
      int s = pair[0];
      int least = leastFold(model, s, pair[1]);
      int in = model.meetsIn(s, least);
      String told = ", meets first at " + least;
      Check.due("past(s, 4096)" + told, draws.past(s, 4096), least <= 4096 ? in : NONE);
      Check.due("past(s, 4095)" + told, draws.past(s, 4095), least <= 2048 ? in : NONE);
      Check.due("past(s, 2048)" + told, draws.past(s, 2048), least <= 2048 ? in : NONE);
      Check.due("past(s, 2047)" + told, draws.past(s, 2047), NONE);
      Check.due("past(s, 1)" + told, draws.past(s, 1), NONE);
    }
  }

  private static void pastLimits() {
    Check.sentence("Promise 7: most (1 .. 4096). BAD; NONE");
    PastDraws meets = new PastDraws(1);
    PastDraws never = new PastDraws(12);
    int[] wrongMosts = {0, -1, -2, LEAST, 4097, 4098, 8192, MOST};
    for (int s : SEEDS) {
      for (int most : wrongMosts) {
        Check.due("past(" + s + ", " + most + ") where all meet", meets.past(s, most), BAD);
        Check.due("past(" + s + ", " + most + ") where none meet", never.past(s, most), BAD);
      }
      int[] rightMosts = {1, 2, 3, 4095, 4096};
      for (int most : rightMosts) {
        Check.due("past(" + s + ", " + most + ") where all meet", meets.past(s, most), 0);
        Check.due("past(" + s + ", " + most + ") where none meet", never.past(s, most), NONE);
      }
    }
  }

  private static void foldUpToMost() {
    Check.sentence("Promise 8: The least T of 1, 2, 3, .. up to most (1 .. 4096)");
    ChainModel model = ring();
    PastDraws draws = model.told();
    int[][] seedAndFold = {{10708, 2048}, {2475, 2049}, {53207, 4095}, {2758, 4096}, {12724, 4097}};
    for (int[] pair : seedAndFold) {
      int s = pair[0];
      int least = leastFold(model, s, pair[1]);
      int[] mosts = {1, least - 2, least - 1, least, least + 1, 4096};
      for (int most : mosts) {
        int due = most > 4096 ? BAD : most < least ? NONE : least;
        Check.due("fold(s, " + most + "), meets first at " + least, draws.fold(s, most), due);
      }
    }
  }

  private static void foldLimits() {
    Check.sentence("Promise 8: most (1 .. 4096). BAD; NONE");
    PastDraws meets = new PastDraws(1);
    PastDraws never = new PastDraws(12);
    int[] wrongMosts = {0, -1, -2, LEAST, 4097, 4098, 8192, MOST};
    for (int s : SEEDS) {
      for (int most : wrongMosts) {
        Check.due("fold(" + s + ", " + most + ") where all meet", meets.fold(s, most), BAD);
        Check.due("fold(" + s + ", " + most + ") where none meet", never.fold(s, most), BAD);
      }
      int[] rightMosts = {1, 2, 3, 4095, 4096};
      for (int most : rightMosts) {
        Check.due("fold(" + s + ", " + most + ") where all meet", meets.fold(s, most), 1);
        Check.due("fold(" + s + ", " + most + ") where none meet", never.fold(s, most), NONE);
      }
    }
  }

  // All but one end of the states go to 1: bounds that left out that end would be like.
  private static void boundsAtFirst() {
    Check.sentence("BOUNDS of a ROW: 0 and n - 1 at first");
    int s = Seeds.seedWithSigns(6);
    for (int n = 3; n <= 12; n++) {
      for (int end = 0; end < n; end += n - 1) {
        ChainModel model = new ChainModel(n);
        Arrays.fill(model.rules[6], 1);
        model.rules[6][end] = end;
        PastDraws draws = model.told();
        Check.due("bounding(s, 1) of " + n + ", " + end + " apart", draws.bounding(s, 1), NONE);
        draws.rule(end, 6, 1);
        Check.due("bounding(s, 1) of " + n + ", none apart", draws.bounding(s, 1), 1);
      }
    }
  }

  private static void boundsBetween() {
    Check.sentence("each SIGN (uT first) makes them the least and the greatest of those that it takes the STATES "
        + "from the lower to the upper one to");
    // Sign 1 leaves 0 and 2; sign 2 takes these to 0, but 1 between them to 2.
    ChainModel model = new ChainModel(3);
    model.rules[1][1] = 0;
    model.rules[2][1] = 2;
    model.rules[2][2] = 0;
    PastDraws draws = model.told();
    int s = Seeds.seedWithSigns(2, 1);
    Check.due("fold(s, 2)", draws.fold(s, 2), 2);
    Check.due("bounding(s, 2)", draws.bounding(s, 2), NONE);
    // Sign 3 takes all to 1 and 2, of which sign 4 takes both to 0: 4 ahead of 3 leaves 0 and 2.
    ChainModel order = new ChainModel(3);
    order.rules[3] = new int[] {1, 1, 2};
    order.rules[4] = new int[] {2, 0, 0};
    draws = order.told();
    Check.due("bounding, u1 4 and u2 3", draws.bounding(Seeds.seedWithSigns(4, 3), 2), 2);
    Check.due("bounding, u1 3 and u2 4", draws.bounding(Seeds.seedWithSigns(3, 4), 2), NONE);
    // A greater state below a lower one: the bounds are still the least and the greatest.
    ChainModel turned = new ChainModel(2);
    turned.rules[5] = new int[] {1, 0};
    draws = turned.told();
    int swaps = Seeds.seedWithSigns(5, 5);
    Check.due("bounding where states change places", draws.bounding(swaps, 64), NONE);
  }

  private static ChainModel walk() {
    ChainModel model = new ChainModel(12);
    for (int sign = 0; sign < 8; sign++) {
      for (int state = 0; state < 12; state++) {
        model.rules[sign][state] = sign < 4 ? Math.min(11, state + 1) : Math.max(0, state - 1);
      }
    }
    return model;
  }

  // Seeds found by trying: the bounds of the walk are like first at just these lengths.
  private static void boundingUpToMost() {
    Check.sentence("Promise 9: The least T of 1, 2, 3, .. up to most (1 .. 64) whose ROW has like BOUNDS: T");
    ChainModel model = walk();
    PastDraws draws = model.told();
    int[][] seedAndLength = {{38, 63}, {6, 64}, {154, 65}};
    for (int[] pair : seedAndLength) {
      int s = pair[0];
      int least = pair[1];
      Check.holds("like first at " + least, model.boundsAreLike(s, least) && !model.boundsAreLike(s, least - 1));
      for (int most = 1; most <= 64; most++) {
        Check.due("bounding(" + s + ", " + most + ")", draws.bounding(s, most), most < least ? NONE : least);
      }
      Check.due("fold(" + s + ", 4096), the same where order is kept", draws.fold(s, 4096), least);
    }
  }

  private static void boundingLimits() {
    Check.sentence("Promise 9: most (1 .. 64). BAD; NONE");
    PastDraws meets = new PastDraws(1);
    PastDraws never = new PastDraws(12);
    int[] wrongMosts = {0, -1, -2, LEAST, 65, 66, 4096, MOST};
    for (int s : SEEDS) {
      for (int most : wrongMosts) {
        Check.due("bounding(" + s + ", " + most + ") where all meet", meets.bounding(s, most), BAD);
        Check.due("bounding(" + s + ", " + most + ") where none meet", never.bounding(s, most), BAD);
      }
      int[] rightMosts = {1, 2, 63, 64};
      for (int most : rightMosts) {
        Check.due("bounding(" + s + ", " + most + ") where all meet", meets.bounding(s, most), 1);
        Check.due("bounding(" + s + ", " + most + ") where none meet", never.bounding(s, most), NONE);
      }
    }
  }

  private static void likeOrGreater() {
    Check.sentence("Promise 10: Whether each SIGN takes no STATE above where it takes a greater one: 1, 0");
    for (int n = 2; n <= 12; n++) {
      for (int sign = 0; sign < 8; sign += 7) {
        PastDraws draws = new PastDraws(n);
        Check.due("monotone() at first", draws.monotone(), 1);
        draws.rule(0, sign, 1);
        Check.due("monotone(), 0 and 1 alike", draws.monotone(), 1);
        draws.rule(0, sign, 0);
        draws.rule(n - 1, sign, n - 2);
        Check.due("monotone(), the last two alike", draws.monotone(), 1);
        draws.rule(n - 2, sign, n - 1);
        Check.due("monotone(), the last below the one ahead of it", draws.monotone(), 0);
        draws.rule(n - 1, sign, n - 1);
        Check.due("monotone(), alike again", draws.monotone(), 1);
        draws.rule(n - 1, sign, 0);
        draws.rule(n - 2, sign, 0);
        Check.due("monotone(), the last two at 0", draws.monotone(), n == 2 || n == 3 ? 1 : 0);
      }
    }
  }

  private static void oneState() {
    Check.sentence("Promise 1: n: 1: each ROW and each block MEETS in 0");
    PastDraws draws = new PastDraws(1);
    for (int s : SEEDS) {
      Check.due("past(" + s + ", 1)", draws.past(s, 1), 0);
      Check.due("fold(" + s + ", 1)", draws.fold(s, 1), 1);
      Check.due("bounding(" + s + ", 1)", draws.bounding(s, 1), 1);
      Check.due("taken(" + s + ", 4096, 0)", draws.taken(s, 4096, 0), 0);
      Check.due("once(" + s + ", 1, 0)", draws.once(s, 1, 0), 0);
      Check.due("once(" + s + ", 64, 99)", draws.once(s, 64, 99), 0);
    }
    Check.due("monotone()", draws.monotone(), 1);
    Check.due("rule(0, 0, 0)", draws.rule(0, 0, 0), 0);
    Check.due("monotone() then", draws.monotone(), 1);
  }
}
