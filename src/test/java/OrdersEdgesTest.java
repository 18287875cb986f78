/** PERMUTATIONS and promises 19 to 22: each sentence that names a boundary, with a test of its own. */
public final class OrdersEdgesTest {
  private static final int BAD = PastDraws.BAD;
  private static final int NONE = PastDraws.NONE;
  private static final int LEAST = Integer.MIN_VALUE;
  private static final int MOST = Integer.MAX_VALUE;
  private static final int[] FACTORIALS = {1, 1, 2, 6, 24, 120, 720, 5040, 40320};

  public static void main(String[] args) {
    allAtFirst();
    whichItWas();
    allowLimits();
    anotherNumber();
    numbersBelowM();
    placesBelowM();
    inOrder();
    permutationsLimits();
    noneAtAll();
    justOne();
    suchOneAndPlace();
    permutationLimits();
    lowestThreeBits();
    noneThatThereIs();
    placeLimits();
    Check.finish();
  }

  private static int packed(int... numbers) {
    int p = 0;
    for (int place = 0; place < numbers.length; place++) {
      p |= numbers[place] << 3 * place;
    }
    return p;
  }

  private static void allAtFirst() {
    Check.sentence("place and number are ALLOWED (at first all are)");
    PastDraws draws = new PastDraws(1);
    for (int m = 1; m <= 8; m++) {
      Check.due("permutations(" + m + ")", draws.permutations(m), FACTORIALS[m]);
    }
    for (int place = 0; place < 8; place++) {
      for (int number = 0; number < 8; number++) {
        Check.due("allow(" + place + ", " + number + ", true)", draws.allow(place, number, true), 1);
      }
    }
    Check.due("permutations(8) still", draws.permutations(8), 40320);
  }

  private static void whichItWas() {
    Check.sentence("Promise 19: A number at a place is ALLOWED, or not: which it was (1, 0)");
    for (int place = 0; place < 8; place += 7) {
      for (int number = 0; number < 8; number += 7) {
        PastDraws draws = new PastDraws(1);
        Check.due("allow(.., false)", draws.allow(place, number, false), 1);
        Check.due("allow(.., false) again", draws.allow(place, number, false), 0);
        Check.due("permutations(8) without it", draws.permutations(8), 35280);
        Check.due("allow(.., true)", draws.allow(place, number, true), 0);
        Check.due("allow(.., true) again", draws.allow(place, number, true), 1);
        Check.due("permutations(8) with it", draws.permutations(8), 40320);
        Check.due("allow(7 - place, number, true)", draws.allow(7 - place, number, true), 1);
        Check.due("allow(place, 7 - number, true)", draws.allow(place, 7 - number, true), 1);
      }
    }
    // A place is not a number: only one of the two is no longer allowed.
    PastDraws draws = new PastDraws(1);
    Check.due("allow(2, 5, false)", draws.allow(2, 5, false), 1);
    Check.due("allow(5, 2, true)", draws.allow(5, 2, true), 1);
  }

  private static void allowLimits() {
    Check.sentence("Promise 19: A number (0 .. 7) at a place (0 .. 7). BAD");
    PastDraws draws = new PastDraws(12);
    int[] wrong = {-1, -2, 8, 9, 32, LEAST, MOST};
    for (int number : wrong) {
      for (int other = 0; other < 8; other += 7) {
        Check.due("allow(" + other + ", " + number + ", false)", draws.allow(other, number, false), BAD);
        Check.due("allow(" + other + ", " + number + ", true)", draws.allow(other, number, true), BAD);
        Check.due("allow(" + number + ", " + other + ", false)", draws.allow(number, other, false), BAD);
        Check.due("allow(" + number + ", " + other + ", true)", draws.allow(number, other, true), BAD);
      }
    }
    Check.due("permutations(8) still", draws.permutations(8), 40320);
  }

  private static void anotherNumber() {
    Check.sentence("each place 0 .. m - 1 has another number of 0 .. m - 1");
    PastDraws draws = new PastDraws(1);
    // Both places may have 1 alone: no two have the same.
    draws.allow(0, 0, false);
    draws.allow(1, 0, false);
    Check.due("permutations(2)", draws.permutations(2), 0);
    Check.due("place(2, 1 1)", draws.place(2, packed(1, 1)), NONE);
    Check.due("permutations(3)", draws.permutations(3), 2);
    Check.due("place(3, 1 1 0)", draws.place(3, packed(1, 1, 0)), NONE);
    Check.due("place(3, 1 2 0)", draws.place(3, packed(1, 2, 0)), 0);
    Check.due("place(3, 2 1 0)", draws.place(3, packed(2, 1, 0)), 1);
  }

  private static void numbersBelowM() {
    Check.sentence("a number of 0 .. m - 1: greater ones are not used, though they are ALLOWED");
    for (int m = 1; m < 8; m++) {
      PastDraws draws = new PastDraws(1);
      for (int number = 0; number < m; number++) {
        draws.allow(0, number, false);
      }
      Check.due("permutations(" + m + "), place 0 may have greater ones", draws.permutations(m), 0);
      Check.due("permutations(" + (m + 1) + ")", draws.permutations(m + 1), FACTORIALS[m]);
      Check.due("permutation(" + (m + 1) + ", 0, 0)", draws.permutation(m + 1, 0, 0), m);
    }
  }

  private static void placesBelowM() {
    Check.sentence("each place 0 .. m - 1: what later places may have counts for nothing");
    for (int m = 1; m < 8; m++) {
      PastDraws draws = new PastDraws(1);
      for (int number = 0; number < 8; number++) {
        draws.allow(m, number, false);
      }
      Check.due("permutations(" + m + "), place m has none", draws.permutations(m), FACTORIALS[m]);
      Check.due("permutations(" + (m + 1) + "), place m has none", draws.permutations(m + 1), 0);
    }
  }

  private static void inOrder() {
    Check.sentence("numbered in order likewise (the first place where two differ)");
    PastDraws draws = new PastDraws(1);
    Check.due("place(3, 0 1 2)", draws.place(3, packed(0, 1, 2)), 0);
    Check.due("place(3, 0 2 1)", draws.place(3, packed(0, 2, 1)), 1);
    Check.due("place(3, 1 0 2)", draws.place(3, packed(1, 0, 2)), 2);
    Check.due("place(3, 2 1 0)", draws.place(3, packed(2, 1, 0)), 5);
    Check.due("place(8, the first)", draws.place(8, packed(0, 1, 2, 3, 4, 5, 6, 7)), 0);
    Check.due("place(8, the last)", draws.place(8, packed(7, 6, 5, 4, 3, 2, 1, 0)), 40319);
    for (int i = 0; i < 8; i++) {
      Check.due("permutation(8, 0, " + i + ")", draws.permutation(8, 0, i), i);
      Check.due("permutation(8, 40319, " + i + ")", draws.permutation(8, 40319, i), 7 - i);
    }
    // Only those that are allowed have numbers.
    draws.allow(0, 1, false);
    Check.due("place(3, 2 0 1), 1 not first", draws.place(3, packed(2, 0, 1)), 2);
    Check.due("permutation(3, 2, 0), 1 not first", draws.permutation(3, 2, 0), 2);
    Check.due("permutation(3, 2, 2), 1 not first", draws.permutation(3, 2, 2), 1);
  }

  private static void permutationsLimits() {
    Check.sentence("PERMUTATIONS of m (1 .. 8). Promise 20: BAD");
    PastDraws draws = new PastDraws(12);
    int[] wrong = {0, -1, -2, LEAST, 9, 10, 12, MOST};
    for (int m : wrong) {
      Check.due("permutations(" + m + ")", draws.permutations(m), BAD);
    }
    Check.due("permutations(1)", draws.permutations(1), 1);
    Check.due("permutations(8)", draws.permutations(8), 40320);
  }

  private static void noneAtAll() {
    Check.sentence("Promise 20: How many PERMUTATIONS of m there are: none");
    PastDraws draws = new PastDraws(1);
    Check.due("allow(0, 0, false)", draws.allow(0, 0, false), 1);
    Check.due("permutations(1)", draws.permutations(1), 0);
    Check.due("permutation(1, 0, 0)", draws.permutation(1, 0, 0), BAD);
    Check.due("place(1, 0)", draws.place(1, 0), NONE);
    for (int number = 0; number < 8; number++) {
      draws.allow(7, number, false);
    }
    Check.due("permutations(8)", draws.permutations(8), 0);
    Check.due("permutation(8, 0, 0)", draws.permutation(8, 0, 0), BAD);
    Check.due("place(8, 1 0 2 3 4 5 6 7)", draws.place(8, packed(1, 0, 2, 3, 4, 5, 6, 7)), NONE);
    Check.due("permutations(7)", draws.permutations(7), 4320);
  }

  private static void justOne() {
    Check.sentence("Promise 20: How many PERMUTATIONS of m there are: one");
    PastDraws draws = new PastDraws(1);
    for (int place = 0; place < 8; place++) {
      for (int number = 0; number < 8; number++) {
        draws.allow(place, number, number == 7 - place);
      }
    }
    Check.due("permutations(8)", draws.permutations(8), 1);
    for (int i = 0; i < 8; i++) {
      Check.due("permutation(8, 0, " + i + ")", draws.permutation(8, 0, i), 7 - i);
    }
    Check.due("permutation(8, 1, 0)", draws.permutation(8, 1, 0), BAD);
    Check.due("place(8, it)", draws.place(8, packed(7, 6, 5, 4, 3, 2, 1, 0)), 0);
    Check.due("place(8, another)", draws.place(8, packed(0, 1, 2, 3, 4, 5, 6, 7)), NONE);
    Check.due("permutations(7)", draws.permutations(7), 0);
  }

  private static void suchOneAndPlace() {
    Check.sentence("Promise 21: BAD: also no such one, place");
    PastDraws draws = new PastDraws(1);
    for (int m = 1; m <= 8; m++) {
      int all = FACTORIALS[m];
      int[] wrongNumbers = {-1, -2, LEAST, all, all + 1, MOST};
      for (int number : wrongNumbers) {
        Check.due("permutation(" + m + ", " + number + ", 0)", draws.permutation(m, number, 0), BAD);
      }
      int[] wrongPlaces = {-1, -2, LEAST, m, m + 1, 8, MOST};
      for (int i : wrongPlaces) {
        Check.due("permutation(" + m + ", 0, " + i + ")", draws.permutation(m, 0, i), BAD);
        Check.due("permutation(" + m + ", all, " + i + ")", draws.permutation(m, all, i), BAD);
      }
      Check.due("permutation(" + m + ", 0, m - 1)", draws.permutation(m, 0, m - 1), m - 1);
      Check.due("permutation(" + m + ", all - 1, 0)", draws.permutation(m, all - 1, 0), m - 1);
      Check.due("permutation(" + m + ", all - 1, m - 1)", draws.permutation(m, all - 1, m - 1), 0);
    }
  }

  private static void permutationLimits() {
    Check.sentence("PERMUTATIONS of m (1 .. 8). Promise 21: BAD");
    PastDraws draws = new PastDraws(12);
    int[] wrong = {0, -1, -2, LEAST, 9, 10, MOST};
    for (int m : wrong) {
      Check.due("permutation(" + m + ", 0, 0)", draws.permutation(m, 0, 0), BAD);
      Check.due("permutation(" + m + ", 0, 8)", draws.permutation(m, 0, 8), BAD);
      Check.due("permutation(" + m + ", 1, -1)", draws.permutation(m, 1, -1), BAD);
    }
  }

  private static void lowestThreeBits() {
    Check.sentence("Promise 22: has at its places the lowest three bits of p, the next three, ..");
    PastDraws draws = new PastDraws(1);
    Check.due("place(3, 1 2 0)", draws.place(3, packed(1, 2, 0)), 3);
    Check.due("place(3, 2 0 1)", draws.place(3, packed(2, 0, 1)), 4);
    Check.due("place(1, 0)", draws.place(1, 0), 0);
    // Bits above the places are none of theirs.
    Check.due("place(1, 0 and all bits above)", draws.place(1, -8), 0);
    Check.due("place(1, least)", draws.place(1, LEAST), 0);
    Check.due("place(3, 1 2 0 and all bits above)", draws.place(3, packed(1, 2, 0) | -1 << 9), 3);
    Check.due("place(8, the last and all bits above)", draws.place(8, packed(7, 6, 5, 4, 3, 2, 1, 0) | -1 << 24), 40319);
  }

  private static void noneThatThereIs() {
    Check.sentence("Promise 22: NONE: it is none that there is");
    PastDraws draws = new PastDraws(1);
    Check.due("place(1, 1), a number of m", draws.place(1, 1), NONE);
    Check.due("place(1, 7), a number above m", draws.place(1, 7), NONE);
    Check.due("place(2, 0 2), a number of m", draws.place(2, packed(0, 2)), NONE);
    Check.due("place(2, 0 0), one number twice", draws.place(2, packed(0, 0)), NONE);
    Check.due("place(8, 0 ..), one number eight times", draws.place(8, 0), NONE);
    Check.due("place(8, all bits), 7 eight times", draws.place(8, -1), NONE);
    Check.due("place(8, 0 1 2 3 4 5 6 6), the last twice", draws.place(8, packed(0, 1, 2, 3, 4, 5, 6, 6)), NONE);
    Check.due("place(7, 0 1 2 3 4 5 7), the last of m", draws.place(7, packed(0, 1, 2, 3, 4, 5, 7)), NONE);
    draws.allow(7, 7, false);
    Check.due("place(8, 0 .. 7), the last not allowed", draws.place(8, packed(0, 1, 2, 3, 4, 5, 6, 7)), NONE);
    Check.due("place(8, 0 .. 7 6), another", draws.place(8, packed(0, 1, 2, 3, 4, 5, 7, 6)), 0);
    draws.allow(0, 0, false);
    Check.due("place(8, 0 .. 7 6), the first not allowed", draws.place(8, packed(0, 1, 2, 3, 4, 5, 7, 6)), NONE);
  }

  private static void placeLimits() {
    Check.sentence("PERMUTATIONS of m (1 .. 8). Promise 22: BAD; NONE: BAD first");
    PastDraws draws = new PastDraws(12);
    int[] wrong = {0, -1, -2, LEAST, 9, 10, 11, MOST};
    int[] any = {0, 1, -1, LEAST, MOST, packed(0, 1, 2, 3, 4, 5, 6, 7)};
    for (int m : wrong) {
      for (int p : any) {
        Check.due("place(" + m + ", " + p + ")", draws.place(m, p), BAD);
      }
    }
  }
}
