/** HASH, SIGN, PICKED and promises 2 to 4: each sentence that names a boundary, with a test of its own. */
public final class NumbersEdgesTest {
  private static final int BAD = PastDraws.BAD;
  private static final int LEAST = Integer.MIN_VALUE;
  private static final int MOST = Integer.MAX_VALUE;
  private static final long TOP = 1L << 62;

  public static void main(String[] args) {
    allAsInts();
    unsignedShifts();
    highestThreeBits();
    boundsOfN();
    leastPower();
    noBits();
    firstBelow();
    halves();
    howManyTries();
    Check.finish();
  }

  private static void allAsInts() {
    Check.sentence("1 HASH: (all as ints): wraps around");
    PastDraws draws = new PastDraws(1);
    Check.due("hash(0, 0)", draws.hash(0, 0), 0);
    Check.due("hash(1, 2)", draws.hash(1, 2), 314344336);
    Check.due("hash(least, most)", draws.hash(LEAST, MOST), 918526378);
    int[] edges = {0, 1, -1, LEAST, MOST, LEAST + 1, MOST - 1, 0x61C88647, 0x9E3779B9};
    for (int s : edges) {
      for (int t : edges) {
        Check.due("hash(" + s + ", " + t + ")", draws.hash(s, t), Seeds.hashOf(s, t));
      }
    }
  }

  private static void unsignedShifts() {
    Check.sentence("1 HASH: x ^ (x >>> 16) .. x ^ (x >>> 13) .. x ^ (x >>> 16)");
    PastDraws draws = new PastDraws(1);
    int[] wanted = {-1, LEAST, MOST, 1, 0x80000001, 0xFFFF0000, 0x0000FFFF, 0x80008000};
    for (int hash : wanted) {
      for (int t = -1; t < 3; t++) {
        int s = Seeds.seedWith(hash, t);
        Check.due("hash(" + s + ", " + t + ")", draws.hash(s, t), hash);
      }
    }
  }

  private static void highestThreeBits() {
    Check.sentence("A SIGN u is 0 .. 7: the highest three bits of a HASH");
    for (int sign = 0; sign < 8; sign++) {
      PastDraws draws = new PastDraws(2);
      draws.rule(0, sign, 1);
      for (int other = 0; other < 8; other++) {
        int lowest = other << 29;
        int highest = lowest + (1 << 29) - 1;
        int due = other == sign ? 1 : 0;
        Check.due("sign " + other + ", the lowest", draws.taken(Seeds.seedWith(lowest, 1), 1, 0), due);
        Check.due("sign " + other + ", the highest", draws.taken(Seeds.seedWith(highest, 1), 1, 0), due);
      }
    }
  }

  private static void boundsOfN() {
    Check.sentence("PICKED below N (1 .. 2^62)");
    PastDraws draws = new PastDraws(1);
    long[] outside = {0, -1, -2, Long.MIN_VALUE, -TOP, TOP + 1, TOP + 2, TOP * 2 - 1, Long.MAX_VALUE - 1};
    int[] seeds = {0, 5, -1, LEAST, MOST};
    for (int s : seeds) {
      for (long n : outside) {
        Check.due("pick(" + s + ", " + n + ")", draws.pick(s, n), BAD);
        Check.due("tries(" + s + ", " + n + ")", draws.tries(s, n), BAD);
      }
      // Cut to an int this is 1, and so would be let through.
      Check.due("pick(" + s + ", 2^62 + 2^32 + 1)", draws.pick(s, TOP + (1L << 32) + 1), BAD);
      Check.due("pick(" + s + ", 1)", draws.pick(s, 1), 0);
      Check.due("tries(" + s + ", 1)", draws.tries(s, 1), 1);
      Check.due("pick(" + s + ", 2^62)", draws.pick(s, TOP), longAt(s, 0) >>> 2);
      Check.due("tries(" + s + ", 2^62)", draws.tries(s, TOP), 1);
    }
    Check.due("pick(5, 2^62)", draws.pick(5, TOP), 1587884389415115954L);
  }

  private static long longAt(int s, int k) {
    return (long) Seeds.hashOf(s, 2 * k + 1) << 32 | Seeds.hashOf(s, 2 * k + 2) & 0xFFFFFFFFL;
  }

  private static void leastPower() {
    Check.sentence("b is the least number such that 2^b is N or more");
    int allOnes = Seeds.seedWith(-1, 1);
    for (int bits = 1; bits < 62; bits++) {
      PastDraws draws = new PastDraws(1);
      long power = 1L << bits;
      // Of b bits each v is below 2^b, so the first is taken.
      Check.due("pick(s, 2^" + bits + ")", draws.pick(allOnes, power), longAt(allOnes, 0) >>> 64 - bits);
      Check.due("tries(s, 2^" + bits + ")", draws.tries(allOnes, power), 1);
      // One bit more for one number more: a first bit that is 1 is too much, one that is 0 never is.
      Check.holds("tries(s, 2^" + bits + " + 1)", draws.tries(allOnes, power + 1) > 1);
      int allZeros = Seeds.seedWith(0, 1);
      Check.due("pick(z, 2^" + bits + " + 1)", draws.pick(allZeros, power + 1), longAt(allZeros, 0) >>> 63 - bits);
      Check.due("tries(z, 2^" + bits + " + 1)", draws.tries(allZeros, power + 1), 1);
      if (bits > 1) {
        Check.due("pick(z, 2^" + bits + " - 1)", draws.pick(allZeros, power - 1), longAt(allZeros, 0) >>> 64 - bits);
      }
    }
  }

  private static void noBits() {
    Check.sentence("(b = 0: 0)");
    PastDraws draws = new PastDraws(1);
    int[] hashes = {0, 1, -1, LEAST, MOST};
    for (int hash : hashes) {
      Check.due("pick(s, 1), first hash " + hash, draws.pick(Seeds.seedWith(hash, 1), 1), 0);
      Check.due("pick(s, 1), second hash " + hash, draws.pick(Seeds.seedWith(hash, 2), 1), 0);
      Check.due("tries(s, 1), first hash " + hash, draws.tries(Seeds.seedWith(hash, 1), 1), 1);
    }
  }

  // v of the first try is made the bound itself, and one below it.
  private static void firstBelow() {
    Check.sentence("the first v below N");
    int s = Seeds.seedWith(0xC0000001, 1);
    for (int bits = 2; bits <= 62; bits++) {
      PastDraws draws = new PastDraws(1);
      long v = longAt(s, 0) >>> 64 - bits;
      Check.due("pick(s, v + 1), " + bits + " bits", draws.pick(s, v + 1), v);
      Check.due("tries(s, v + 1), " + bits + " bits", draws.tries(s, v + 1), 1);
      int k = 1;
      while (longAt(s, k) >>> 64 - bits >= v) {
        k++;
      }
      Check.due("pick(s, v), " + bits + " bits", draws.pick(s, v), longAt(s, k) >>> 64 - bits);
      Check.due("tries(s, v), " + bits + " bits", draws.tries(s, v), k + 1);
    }
  }

  private static void halves() {
    Check.sentence("the long whose high half is HASH(s, 2 k + 1) and whose low half is HASH(s, 2 k + 2)");
    PastDraws draws = new PastDraws(1);
    int[] hashes = {-1, LEAST, MOST, 0, 1};
    for (int hash : hashes) {
      int high = Seeds.seedWith(hash, 1);
      int low = Seeds.seedWith(hash, 2);
      for (int bits = 31; bits <= 62; bits += bits == 34 ? 27 : 1) {
        long n = 1L << bits;
        Check.due("pick, high half " + hash + ", " + bits + " bits", draws.pick(high, n), longAt(high, 0) >>> 64 - bits);
        Check.due("pick, low half " + hash + ", " + bits + " bits", draws.pick(low, n), longAt(low, 0) >>> 64 - bits);
      }
    }
  }

  private static void howManyTries() {
    Check.sentence("it took k + 1 TRIES");
    PastDraws draws = new PastDraws(1);
    long n = (1L << 61) + 1;
    // Of all seeds the one whose odd hashes are negative for the longest: the 32nd try is the first below N.
    int patient = -540338290;
    Check.due("tries(patient, 2^61 + 1)", draws.tries(patient, n), 32);
    Check.due("pick(patient, 2^61 + 1)", draws.pick(patient, n), longAt(patient, 31) >>> 2);
    for (int s = 0; s < 40; s++) {
      int k = 0;
      while (longAt(s, k) >>> 62 >= 3) {
        k++;
      }
      Check.due("tries(" + s + ", 3)", draws.tries(s, 3), k + 1);
      Check.due("pick(" + s + ", 3)", draws.pick(s, 3), longAt(s, k) >>> 62);
    }
  }
}
