import java.util.List;

/** BLOCKS, DRAWS and promise 13: each sentence that names a boundary, with a test of its own. */
public final class BlocksEdgesTest {
  private static final int BAD = PastDraws.BAD;
  private static final int NONE = PastDraws.NONE;
  private static final int LEAST = Integer.MIN_VALUE;
  private static final int MOST = Integer.MAX_VALUE;

  public static void main(String[] args) {
    inThisOrder();
    numberedFromNought();
    firstBlockIsNoDraw();
    laterBlocksTakeOn();
    lastBlockOfLength1();
    lastBlockOfLength64();
    fewBlocksMeet();
    hundredDraws();
    limits();
    Check.finish();
  }

  // Sign 1 ahead of sign 2 takes all to 2; the other way round 0 and 1 are left.
  private static ChainModel ordered() {
    ChainModel model = new ChainModel(3);
    model.rules[1] = new int[] {0, 0, 1};
    model.rules[2] = new int[] {2, 2, 0};
    return model;
  }

  private static void drawsAreDue(PastDraws draws, ChainModel model, int s, int length) {
    List<Integer> all = model.drawsOf(s, length);
    int[] some = {0, 1, 2, all.size() - 2, all.size() - 1, all.size(), all.size() + 1, 98, 99};
    for (int k : some) {
      if (k >= 0 && k < 100) {
        int due = k < all.size() ? all.get(k) : NONE;
        Check.due("once(" + s + ", " + length + ", " + k + ") of " + model.n, draws.once(s, length, k), due);
      }
    }
  }

  private static void inThisOrder() {
    Check.sentence("block k takes a STATE through the SIGNS of HASH(s, L k + 1), .., HASH(s, L k + L), in this order");
    ChainModel model = ordered();
    PastDraws draws = model.told();
    Check.due("once, blocks 1 2 and 1 2", draws.once(Seeds.seedWithSigns(1, 2, 1, 2), 2, 0), 2);
    Check.holds("1 2 meets", model.blockMeets(Seeds.seedWithSigns(1, 2), 2, 0));
    Check.holds("2 1 does not", !model.blockMeets(Seeds.seedWithSigns(2, 1), 2, 0));
    // 1 2 meets in 2; sign 1 then takes 2 to 1, so that the draw tells which of the two met first.
    int s = Seeds.seedWithSigns(1, 2, 0, 1, 1, 2);
    Check.due("once, blocks 1 2, 0 1 and 1 2", draws.once(s, 2, 0), 1);
    for (s = 0; s < 30; s++) {
      drawsAreDue(draws, model, s, 2);
    }
  }

  private static void numberedFromNought() {
    Check.sentence("BLOCKS of a seed s, L long, are numbered 0, 1, ..");
    ChainModel model = new ChainModel(2);
    model.rules[0] = new int[] {0, 0};
    model.rules[1] = new int[] {1, 1};
    PastDraws draws = model.told();
    // The first two hashes alone: t = 1 and t = 2.
    Check.due("once, signs 0 and 1", draws.once(Seeds.seedWithSigns(0, 1), 1, 0), 0);
    Check.due("once, signs 1 and 0", draws.once(Seeds.seedWithSigns(1, 0), 1, 0), 1);
    Check.due("once, signs 2, 1 and 0", draws.once(Seeds.seedWithSigns(2, 1, 0), 1, 0), 1);
    // Nothing of hash 0 is read: seeds whose sign at 0 would meet elsewhere.
    for (int s = 0; s < 20; s++) {
      drawsAreDue(draws, model, s, 1);
      drawsAreDue(draws, model, s, 3);
    }
  }

  private static void firstBlockIsNoDraw() {
    Check.sentence("behind the first block that MEETS there is a STATE; each time ahead of a further one that MEETS, "
        + "the STATE that there is, is a DRAW");
    ChainModel model = new ChainModel(3);
    model.rules[0] = new int[] {0, 0, 0};
    model.rules[1] = new int[] {1, 1, 1};
    model.rules[2] = new int[] {2, 2, 2};
    PastDraws draws = model.told();
    int s = Seeds.seedWithSigns(1, 2, 0, 1);
    Check.due("once(s, 1, 0)", draws.once(s, 1, 0), 1);
    Check.due("once(s, 1, 1)", draws.once(s, 1, 1), 2);
    Check.due("once(s, 1, 2)", draws.once(s, 1, 2), 0);
  }

  private static void laterBlocksTakeOn() {
    Check.sentence("a STATE, which each later block takes on");
    ChainModel model = new ChainModel(3);
    model.rules[0] = new int[] {0, 0, 0};
    model.rules[1] = new int[] {1, 2, 0};
    PastDraws draws = model.told();
    Check.due("once, 0, once around, 0", draws.once(Seeds.seedWithSigns(0, 1, 0), 1, 0), 1);
    Check.due("once, 0, twice around, 0", draws.once(Seeds.seedWithSigns(0, 1, 1, 0), 1, 0), 2);
    Check.due("once, 0, three times around, 0", draws.once(Seeds.seedWithSigns(0, 1, 1, 1, 0), 1, 0), 0);
    // What is ahead of the first block that meets counts for nothing.
    Check.due("once, around, 0, 0", draws.once(Seeds.seedWithSigns(1, 0, 0), 1, 0), 0);
    int s = Seeds.seedWithSigns(1, 1, 0, 1, 0, 0);
    Check.due("once, around, around, 0, around, 0, 0", draws.once(s, 1, 0), 1);
    Check.due("and its draw 1", draws.once(s, 1, 1), 0);
  }

  private static int meetingBlocks(ChainModel model, int s, int length) {
    int blocks = 0;
    for (int block = 0; block < 500; block++) {
      blocks += model.blockMeets(s, length, block) ? 1 : 0;
    }
    return blocks;
  }

  // Block 499 meets, and so would block 500: the first is a draw, the second none.
  private static void lastBlockOfLength1() {
    Check.sentence("Blocks 0 .. 499 are looked at (L 1)");
    ChainModel model = new ChainModel(3);
    model.rules[0] = new int[] {0, 0, 0};
    model.rules[1] = new int[] {1, 2, 0};
    PastDraws draws = model.told();
    int found = 0;
    for (int s = 0; found < 5; s++) {
      int blocks = meetingBlocks(model, s, 1);
      if (model.blockMeets(s, 1, 499) && model.blockMeets(s, 1, 500) && blocks <= 100) {
        found++;
        int ahead = model.drawsOf(s, 1).get(blocks - 2);
        Check.due("once(" + s + ", 1, the last)", draws.once(s, 1, blocks - 2), ahead);
        Check.due("once(" + s + ", 1, one more)", draws.once(s, 1, blocks - 1), NONE);
      }
    }
  }

  private static ChainModel lazyWalk(int n) {
    ChainModel model = new ChainModel(n);
    for (int state = 0; state < n; state++) {
      model.rules[0][state] = Math.min(n - 1, state + 1);
      model.rules[7][state] = Math.max(0, state - 1);
    }
    return model;
  }

  private static void lastBlockOfLength64() {
    Check.sentence("Blocks 0 .. 499 are looked at (L 64)");
    ChainModel model = lazyWalk(12);
    PastDraws draws = model.told();
    int s = 6287;
    Check.holds("block 499 meets", model.blockMeets(s, 64, 499));
    Check.holds("block 500 would meet", model.blockMeets(s, 64, 500));
    Check.due("draws", model.drawsOf(s, 64).size(), 10);
    Check.due("once(" + s + ", 64, 0)", draws.once(s, 64, 0), 5);
    Check.due("once(" + s + ", 64, 9)", draws.once(s, 64, 9), 2);
    Check.due("once(" + s + ", 64, 10)", draws.once(s, 64, 10), NONE);
    Check.due("once(" + s + ", 64, 99)", draws.once(s, 64, 99), NONE);
  }

  private static void fewBlocksMeet() {
    Check.sentence("Promise 13: NONE: there are not so many");
    ChainModel model = lazyWalk(12);
    PastDraws draws = model.told();
    int[][] seedAndBlocks = {{43757, 0}, {2213, 1}, {756, 2}};
    for (int[] pair : seedAndBlocks) {
      int s = pair[0];
      Check.due("blocks of " + s + " that meet", meetingBlocks(model, s, 64), pair[1]);
      Check.due("once(" + s + ", 64, 0)", draws.once(s, 64, 0), pair[1] == 2 ? 8 : NONE);
      Check.due("once(" + s + ", 64, 1)", draws.once(s, 64, 1), NONE);
      Check.due("once(" + s + ", 64, 99)", draws.once(s, 64, 99), NONE);
    }
    PastDraws never = new PastDraws(2);
    Check.due("once where none meets", never.once(1, 1, 0), NONE);
    Check.due("once where none meets, the last", never.once(1, 64, 99), NONE);
  }

  // Seeds found by trying: one has just 99 draws, the other just 100.
  private static void hundredDraws() {
    Check.sentence("Promise 13: DRAW k (0 .. 99)");
    ChainModel model = lazyWalk(5);
    PastDraws draws = model.told();
    List<Integer> fewer = model.drawsOf(1, 18);
    Check.due("draws of seed 1", fewer.size(), 99);
    Check.due("once(1, 18, 98)", draws.once(1, 18, 98), fewer.get(98));
    Check.due("once(1, 18, 99)", draws.once(1, 18, 99), NONE);
    List<Integer> more = model.drawsOf(205, 18);
    Check.due("draws of seed 205", more.size(), 100);
    Check.due("once(205, 18, 0)", draws.once(205, 18, 0), more.get(0));
    Check.due("once(205, 18, 98)", draws.once(205, 18, 98), more.get(98));
    Check.due("once(205, 18, 99)", draws.once(205, 18, 99), more.get(99));
    Check.due("once(205, 18, 100)", draws.once(205, 18, 100), BAD);
  }

  private static void limits() {
    Check.sentence("Promise 13: DRAW k (0 .. 99) of the BLOCKS of s, L long (1 .. 64). BAD");
    PastDraws meets = new PastDraws(1);
    PastDraws never = new PastDraws(12);
    int[] seeds = {0, 7, -1, LEAST, MOST};
    int[] wrongLengths = {0, -1, -2, LEAST, 65, 66, 4096, MOST};
    int[] wrongDraws = {-1, -2, LEAST, 100, 101, 499, MOST};
    for (int s : seeds) {
      for (int length : wrongLengths) {
        Check.due("once(" + s + ", " + length + ", 0)", meets.once(s, length, 0), BAD);
        Check.due("once(" + s + ", " + length + ", 0) where none meets", never.once(s, length, 0), BAD);
      }
      for (int k : wrongDraws) {
        Check.due("once(" + s + ", 1, " + k + ")", meets.once(s, 1, k), BAD);
        Check.due("once(" + s + ", 64, " + k + ") where none meets", never.once(s, 64, k), BAD);
      }
      for (int length = 1; length <= 64; length += 63) {
        for (int k = 0; k < 100; k += 99) {
          Check.due("once(" + s + ", " + length + ", " + k + ")", meets.once(s, length, k), 0);
          Check.due("once(" + s + ", " + length + ", " + k + ") where none meets", never.once(s, length, k), NONE);
        }
      }
    }
    // Each end of the limits together with other lengths and draws of a chain that moves.
    ChainModel model = lazyWalk(4);
    PastDraws draws = model.told();
    for (int s : seeds) {
      drawsAreDue(draws, model, s, 1);
      drawsAreDue(draws, model, s, 63);
      drawsAreDue(draws, model, s, 64);
    }
  }
}
