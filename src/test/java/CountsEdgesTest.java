import java.util.Arrays;

/** TREES and promises 11 and 12: each sentence that names a boundary, with a test of its own. */
public final class CountsEdgesTest {
  private static final int BAD = PastDraws.BAD;
  private static final int LEAST = Integer.MIN_VALUE;
  private static final int MOST = Integer.MAX_VALUE;

  public static void main(String[] args) {
    allRowsOfALength();
    allMeet();
    noneMeets();
    countedLimits();
    oneSignForEachOther();
    fromEachOfThem();
    eachSignIsAWay();
    mostTrees();
    oneState();
    treesLimits();
    Check.finish();
  }

  private static ChainModel downAndUp(int n) {
    ChainModel model = new ChainModel(n);
    for (int state = 0; state < n; state++) {
      for (int sign = 0; sign < 8; sign++) {
        model.rules[sign][state] = sign < 3 ? Math.max(0, state - 1) : sign < 6 ? Math.min(n - 1, state + 1) : state;
      }
    }
    return model;
  }

  private static void allRowsOfALength() {
    Check.sentence("Promise 11: How many of all ROWS of SIGNS of a length MEET in a STATE; state -1: in none");
    for (int n = 1; n <= 12; n++) {
      PastDraws draws = downAndUp(n).told();
      for (int length = 1; length <= 5; length++) {
        int sum = 0;
        for (int state = -1; state < n; state++) {
          sum += draws.counted(length, state);
        }
        Check.due("all rows of " + length + ", " + n + " states", sum, 1 << 3 * length);
      }
    }
    // Two states: a row meets in 0 if its sign at last of those that move is one of the three down.
    PastDraws two = downAndUp(2).told();
    Check.due("counted(1, 0)", two.counted(1, 0), 3);
    Check.due("counted(1, 1)", two.counted(1, 1), 3);
    Check.due("counted(1, -1)", two.counted(1, -1), 2);
    Check.due("counted(5, -1)", two.counted(5, -1), 32);
    Check.due("counted(5, 0)", two.counted(5, 0), (32768 - 32) / 2);
  }

  private static void allMeet() {
    Check.sentence("Promise 11: How many of all ROWS: all of them in one STATE");
    for (int n = 1; n <= 12; n++) {
      ChainModel model = new ChainModel(n);
      for (int[] rule : model.rules) {
        Arrays.fill(rule, n - 1);
      }
      PastDraws draws = model.told();
      Check.due("counted(1, last) of " + n, draws.counted(1, n - 1), 8);
      Check.due("counted(5, last) of " + n, draws.counted(5, n - 1), 32768);
      Check.due("counted(5, -1) of " + n, draws.counted(5, -1), 0);
      Check.due("counted(5, 0) of " + n, draws.counted(5, 0), n == 1 ? 32768 : 0);
    }
  }

  private static void noneMeets() {
    Check.sentence("Promise 11: state -1: in none: all of them");
    for (int n = 2; n <= 12; n++) {
      PastDraws draws = new PastDraws(n);
      Check.due("counted(1, -1) of " + n, draws.counted(1, -1), 8);
      Check.due("counted(5, -1) of " + n, draws.counted(5, -1), 32768);
      Check.due("counted(5, 0) of " + n, draws.counted(5, 0), 0);
      Check.due("counted(5, last) of " + n, draws.counted(5, n - 1), 0);
    }
  }

  private static void countedLimits() {
    Check.sentence("Promise 11: a length (1 .. 5). BAD");
    for (int n = 1; n <= 12; n += 11) {
      PastDraws draws = new PastDraws(n);
      int[] wrongLengths = {0, -1, -2, LEAST, 6, 7, 64, MOST};
      for (int length : wrongLengths) {
        Check.due("counted(" + length + ", 0) of " + n, draws.counted(length, 0), BAD);
        Check.due("counted(" + length + ", -1) of " + n, draws.counted(length, -1), BAD);
        Check.due("counted(" + length + ", n) of " + n, draws.counted(length, n), BAD);
      }
      int[] wrongStates = {-2, -3, n, n + 1, LEAST, MOST};
      for (int state : wrongStates) {
        Check.due("counted(1, " + state + ") of " + n, draws.counted(1, state), BAD);
        Check.due("counted(5, " + state + ") of " + n, draws.counted(5, state), BAD);
      }
    }
  }

  // z's own signs are no part of its trees.
  private static void oneSignForEachOther() {
    Check.sentence("TREES of a STATE z: in how many ways each other STATE can have one SIGN");
    ChainModel model = new ChainModel(2);
    for (int sign = 0; sign < 3; sign++) {
      model.rules[sign][1] = 0;
    }
    PastDraws draws = model.told();
    Check.due("trees(0), 0 stays", draws.trees(0), 3);
    Check.due("trees(1), 0 stays", draws.trees(1), 0);
    for (int sign = 0; sign < 8; sign++) {
      draws.rule(0, sign, 1);
    }
    Check.due("trees(0), 0 leaves", draws.trees(0), 3);
    Check.due("trees(1), 0 leaves", draws.trees(1), 8);
    Check.due("trees(-1)", draws.trees(-1), 11);
  }

  private static void fromEachOfThem() {
    Check.sentence("such that from each of them one comes to z, when each STATE goes on as its SIGN tells");
    // 1 and 2 lead to one another, and only 2 by one sign to 0.
    ChainModel model = new ChainModel(3);
    for (int sign = 0; sign < 8; sign++) {
      model.rules[sign][1] = 2;
      model.rules[sign][2] = 1;
    }
    PastDraws draws = model.told();
    Check.due("trees(0), 1 and 2 go round", draws.trees(0), 0);
    Check.due("trees(-1), 0 alone", draws.trees(-1), 0);
    draws.rule(2, 7, 0);
    Check.due("trees(0), 2 leaves by one sign", draws.trees(0), 8);
    Check.due("trees(1), 0 stays", draws.trees(1), 0);
    draws.rule(0, 0, 2);
    Check.due("trees(1), 0 leaves by one sign", draws.trees(1), 7);
    Check.due("trees(2), 0 leaves by one sign", draws.trees(2), 8);
    Check.due("trees(-1)", draws.trees(-1), 23);
    draws.rule(1, 4, 1);
    Check.due("trees(0), 1 stays by one sign", draws.trees(0), 7);
    Check.due("trees(2), 1 stays by one sign", draws.trees(2), 7);
    // 1, 2 and 3 go round by all signs, and 3 leaves them by one.
    ChainModel round = new ChainModel(4);
    for (int sign = 0; sign < 8; sign++) {
      round.rules[sign] = new int[] {0, 2, 3, 1};
    }
    draws = round.told();
    Check.due("trees(0), 1 2 3 go round", draws.trees(0), 0);
    draws.rule(3, 2, 0);
    Check.due("trees(0), 3 leaves by one sign", draws.trees(0), 64);
    draws.rule(0, 5, 1);
    Check.due("trees(1), 0 and 3 come to it", draws.trees(1), 8 * 8);
    Check.due("trees(3), 0 comes to it by 1 and 2", draws.trees(3), 64);
    Check.due("trees(2)", draws.trees(2), 64);
    // At first no state comes to another one.
    for (int n = 2; n <= 12; n++) {
      PastDraws fresh = new PastDraws(n);
      Check.due("trees(0) at first", fresh.trees(0), 0);
      Check.due("trees(n - 1) at first", fresh.trees(n - 1), 0);
      Check.due("trees(-1) at first", fresh.trees(-1), 0);
    }
  }

  private static void eachSignIsAWay() {
    Check.sentence("in how many ways each other STATE can have one SIGN: like ones count each");
    for (int n = 2; n <= 12; n++) {
      ChainModel model = new ChainModel(n);
      for (int state = 1; state < n; state++) {
        for (int sign = 0; sign < 8; sign++) {
          model.rules[sign][state] = 0;
        }
      }
      PastDraws draws = model.told();
      Check.due("trees(0), all to it by all signs", draws.trees(0), 1L << 3 * (n - 1));
      Check.due("trees(1)", draws.trees(1), 0);
      Check.due("trees(-1)", draws.trees(-1), 1L << 3 * (n - 1));
    }
  }

  // 8 to the 11th to each of twelve states: no int holds them.
  private static void mostTrees() {
    Check.sentence("Promise 12: TREES of a STATE; of all together (-1): the most");
    ChainModel model = new ChainModel(12);
    for (int state = 0; state < 12; state++) {
      for (int sign = 0; sign < 8; sign++) {
        model.rules[sign][state] = (state + 1) % 12;
      }
    }
    PastDraws draws = model.told();
    for (int state = 0; state < 12; state++) {
      Check.due("trees(" + state + ")", draws.trees(state), 8589934592L);
    }
    Check.due("trees(-1)", draws.trees(-1), 103079215104L);
  }

  private static void oneState() {
    Check.sentence("TREES of a STATE z: there is no other STATE");
    PastDraws draws = new PastDraws(1);
    Check.due("trees(0)", draws.trees(0), 1);
    Check.due("trees(-1)", draws.trees(-1), 1);
    Check.due("counted(1, 0)", draws.counted(1, 0), 8);
    Check.due("counted(1, -1)", draws.counted(1, -1), 0);
  }

  private static void treesLimits() {
    Check.sentence("Promise 12: BAD");
    for (int n = 1; n <= 12; n++) {
      PastDraws draws = new PastDraws(n);
      int[] wrongStates = {-2, -3, n, n + 1, LEAST, MOST};
      for (int state : wrongStates) {
        Check.due("trees(" + state + ") of " + n, draws.trees(state), BAD);
      }
    }
  }
}
