import java.util.Random;

/** Runs of calls of all kinds on one object each, as long as the document lets them be, against the plain model. */
public final class RunsTest {
  private static final int RUNS = 102;
  private static final int CALLS = 512;
  private static final int KINDS = 25;
  private static final int[] WILD = {Integer.MIN_VALUE, -3, -2, -1, 0, 1, 99, 1 << 16, 1 << 30, Integer.MAX_VALUE};

  private final Random random;
  private final PastDraws draws;
  private final PlainModel model;
  private final int n;
  // Some runs let all states come together, some lead up and down, some are as they come.
  private final int kindOfRules;
  private int answered = 0;
  private int refused = 0;

  private RunsTest(int run) {
    random = new Random(run);
    int states = run % 17 - 2;
    draws = new PastDraws(states);
    model = new PlainModel(states);
    n = model.n;
    kindOfRules = run % 3;
  }

  public static void main(String[] args) {
    int answered = 0;
    int refused = 0;
    for (int run = 0; run < RUNS; run++) {
      RunsTest test = new RunsTest(run);
      Check.sentence("run " + run);
      test.go();
      answered += test.answered;
      refused += test.refused;
    }
    Check.sentence("the runs themselves");
    Check.holds(refused + " of " + (answered + refused) + " calls are refused: some, not most", refused > 4000 && answered > 2 * refused);
    Check.finish();
  }

  private void go() {
    for (int call = 0; call < CALLS; call++) {
      // Rules first, so that the chain is more than at first for most of a run.
      boolean tells = call < 12 * n || random.nextInt(8) == 0;
      int kind = tells ? 3 : random.nextInt(KINDS);
      tryOne(kind);
    }
  }

  private int within(int least, int most) {
    int turn = random.nextInt(20);
    if (turn == 0) {
      return WILD[random.nextInt(WILD.length)];
    }
    if (turn == 1) {
      int[] edges = {least - 1, least, most, most + 1};
      return edges[random.nextInt(edges.length)];
    }
    return least + random.nextInt(Math.max(1, most - least + 1));
  }

  private int state() {
    return within(0, n - 1);
  }

  private int seed() {
    return random.nextBoolean() ? random.nextInt() : random.nextInt(9) - 4;
  }

  // Rows that never meet are gone through as often as they are long, so most are short.
  private int most() {
    return random.nextInt(16) == 0 ? within(1, 4096) : within(1, 70);
  }

  private long bound() {
    int turn = random.nextInt(12);
    if (turn == 0) {
      long[] edges = {0, -1, 1, 2, 1L << 62, (1L << 62) + 1, (1L << 61) + 1, Long.MAX_VALUE, Long.MIN_VALUE, 1L << 32};
      return edges[random.nextInt(edges.length)];
    }
    return 1 + (random.nextLong() >>> 2 + random.nextInt(62));
  }

  private int ruled(int state, int sign) {
    if (kindOfRules == 0) {
      return within(0, Math.min(2, n - 1));
    }
    if (kindOfRules == 1 && random.nextInt(30) != 0) {
      return sign < 4 ? Math.min(n - 1, state + 1) : Math.max(0, state - 1);
    }
    return state();
  }

  private void check(String call, long got, long due) {
    Check.due(call, got, due);
    if (due == PastDraws.BAD) {
      refused++;
    } else {
      answered++;
    }
  }

  private void tryOne(int kind) {
    if (kind < 3) {
      tryNumbers(kind);
    } else if (kind < 8) {
      tryRows(kind);
    } else if (kind < 12) {
      tryCounts(kind);
    } else if (kind < 17) {
      tryWords(kind);
    } else if (kind < 21) {
      tryOrders(kind);
    } else {
      tryWeights(kind);
    }
  }

  private void tryNumbers(int kind) {
    int s = seed();
    if (kind == 0) {
      int t = seed();
      check("hash(" + s + ", " + t + ")", draws.hash(s, t), model.hash(s, t));
      return;
    }
    long below = bound();
    if (kind == 1) {
      check("pick(" + s + ", " + below + ")", draws.pick(s, below), model.pick(s, below));
    } else {
      check("tries(" + s + ", " + below + ")", draws.tries(s, below), model.tries(s, below));
    }
  }

  private void tryRows(int kind) {
    int s = seed();
    int most = most();
    if (kind == 3) {
      int state = state();
      int sign = within(0, 7);
      int to = ruled(state, sign);
      check("rule(" + state + ", " + sign + ", " + to + ")", draws.rule(state, sign, to), model.rule(state, sign, to));
    } else if (kind == 4) {
      int state = state();
      check("taken(" + s + ", " + most + ", " + state + ")", draws.taken(s, most, state), model.taken(s, most, state));
    } else if (kind == 5) {
      check("past(" + s + ", " + most + ")", draws.past(s, most), model.past(s, most));
    } else if (kind == 6) {
      check("fold(" + s + ", " + most + ")", draws.fold(s, most), model.fold(s, most));
    } else {
      int bounded = within(1, 64);
      check("bounding(" + s + ", " + bounded + ")", draws.bounding(s, bounded), model.bounding(s, bounded));
    }
  }

  private void tryCounts(int kind) {
    if (kind == 8) {
      check("monotone()", draws.monotone(), model.monotone());
    } else if (kind == 9) {
      int length = random.nextInt(6) == 0 ? within(1, 5) : within(1, 3);
      int state = within(-1, n - 1);
      check("counted(" + length + ", " + state + ")", draws.counted(length, state), model.counted(length, state));
    } else if (kind == 10) {
      // The model goes through all sets of states, so those of many states are asked for once in a while.
      int state = n < 9 || random.nextInt(12) == 0 ? within(-1, n - 1) : n;
      check("trees(" + state + ")", draws.trees(state), model.trees(state));
    } else {
      int s = seed();
      int length = random.nextInt(4) == 0 ? within(1, 64) : within(1, 9);
      int k = random.nextBoolean() ? within(0, 99) : within(0, 3);
      check("once(" + s + ", " + length + ", " + k + ")", draws.once(s, length, k), model.once(s, length, k));
    }
  }

  private void tryWords(int kind) {
    int state = state();
    int length = random.nextBoolean() ? within(0, 25) : within(0, 6);
    // The first states are told as many letters as the rest together, so that there are words.
    int told = random.nextBoolean() ? within(0, Math.min(2, n - 1)) : state;
    if (kind == 12) {
      int letter = within(0, 3);
      int to = random.nextInt(6) == 0 ? PastDraws.NONE : random.nextBoolean() ? within(0, Math.min(2, n - 1)) : state();
      check("lead(" + told + ", " + letter + ", " + to + ")", draws.lead(told, letter, to), model.lead(told, letter, to));
    } else if (kind == 13) {
      boolean is = random.nextInt(3) != 0;
      check("end(" + told + ", " + is + ")", draws.end(told, is), model.end(told, is));
    } else if (kind == 14) {
      check("words(" + length + ")", draws.words(length), model.words(length));
    } else if (kind == 15) {
      long count = Math.max(0, model.words(length));
      long number = random.nextInt(9) == 0 ? count - random.nextInt(2) : Math.floorMod(random.nextLong(), count + 1);
      int i = within(0, Math.max(0, Math.min(24, length - 1)));
      check("word(" + length + ", " + number + ", " + i + ")", draws.word(length, number, i), model.word(length, number, i));
    } else {
      long w = random.nextBoolean() ? someWord(length) : random.nextLong();
      check("rank(" + length + ", " + w + ")", draws.rank(length, w), model.rank(length, w));
    }
  }

  // One that is taken, if there is one.
  private long someWord(int length) {
    long count = model.words(length);
    long number = count < 1 ? 0 : Math.floorMod(random.nextLong(), count);
    long w = 0;
    for (int i = 0; i < length && i < 25; i++) {
      w |= (long) Math.max(0, model.word(length, number, i)) << 2 * i;
    }
    return w;
  }

  private void tryOrders(int kind) {
    int m = random.nextInt(6) == 0 ? within(1, 8) : within(1, 5);
    if (kind == 17) {
      int place = within(0, 7);
      int number = within(0, 7);
      boolean is = random.nextInt(3) == 0;
      check("allow(" + place + ", " + number + ", " + is + ")", draws.allow(place, number, is), model.allow(place, number, is));
    } else if (kind == 18) {
      check("permutations(" + m + ")", draws.permutations(m), model.permutations(m));
    } else if (kind == 19) {
      int number = within(0, Math.max(0, model.permutations(m) - 1));
      int i = within(0, Math.max(0, Math.min(7, m - 1)));
      check("permutation(" + m + ", " + number + ", " + i + ")", draws.permutation(m, number, i), model.permutation(m, number, i));
    } else {
      int p = random.nextInt(4) == 0 ? random.nextInt() : someOrder(m);
      check("place(" + m + ", " + p + ")", draws.place(m, p), model.place(m, p));
    }
  }

  // One that there is, if there is one.
  private int someOrder(int m) {
    int count = model.permutations(m);
    int number = count < 1 ? 0 : random.nextInt(count);
    int p = 0;
    for (int i = 0; i < m && i < 8; i++) {
      p |= Math.max(0, model.permutation(m, number, i)) << 3 * i;
    }
    return p;
  }

  private void tryWeights(int kind) {
    int thing = random.nextBoolean() ? within(0, 15) : within(0, 2);
    if (kind == 21) {
      int m = random.nextBoolean() ? within(1, 16) : within(1, 3);
      check("things(" + m + ")", draws.things(m), model.things(m));
    } else if (kind == 22) {
      int w = random.nextInt(3) == 0 ? 0 : random.nextBoolean() ? within(0, 5) : within(0, 1000);
      check("weight(" + thing + ", " + w + ")", draws.weight(thing, w), model.weight(thing, w));
    } else if (kind == 23) {
      int what = within(0, 2);
      check("cell(" + thing + ", " + what + ")", draws.cell(thing, what), model.cell(thing, what));
    } else {
      // S times as many things as there can be: of few things most are refused.
      int v = within(0, Math.max(1, model.cell(0, 2)) * (1 + random.nextInt(16)));
      check("tell(" + v + ")", draws.tell(v), model.tell(v));
    }
  }
}
