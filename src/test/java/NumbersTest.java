import java.math.BigInteger;
import java.util.Random;

/** Promises 2 to 4: hash, pick, tries. */
public final class NumbersTest {
  private static final long MOST = 1L << 62;
  private static final Renewed DRAWS = new Renewed(3);

  public static void main(String[] args) {
    hashes();
    ordinaryBounds();
    edges();
    wrongBounds();
    Check.finish();
  }

  // HASH in numbers below 2^32 instead of ints.
  private static long hashOf(long s, long t) {
    long mask = 0xFFFFFFFFL;
    long x = ((s & mask) + times(t & mask, 0x9E3779B9L)) & mask;
    x = times(x ^ (x >> 16), 0x85EBCA6BL);
    x = times(x ^ (x >> 13), 0xC2B2AE35L);
    return x ^ (x >> 16);
  }

  private static long times(long a, long b) {
    return BigInteger.valueOf(a).multiply(BigInteger.valueOf(b)).mod(BigInteger.ONE.shiftLeft(32)).longValue();
  }

  private static void hashes() {
    Check.due("hash(1, 2)", DRAWS.hash(1, 2), 314344336);
    Check.due("hash(0, 0)", DRAWS.hash(0, 0), 0);
    int[] edges = {0, 1, -1, 2, 7, 1 << 16, Integer.MAX_VALUE, Integer.MIN_VALUE, 0x9E3779B9};
    for (int s : edges) {
      for (int t : edges) {
        Check.due("hash(" + s + ", " + t + ")", DRAWS.hash(s, t), (int) hashOf(s, t));
      }
    }
    Random random = new Random(1);
    for (int i = 0; i < 500; i++) {
      int s = random.nextInt();
      int t = random.nextInt();
      Check.due("hash(" + s + ", " + t + ")", DRAWS.hash(s, t), (int) hashOf(s, t));
      Check.due("HASH of " + s + ", " + t + " in the tests", Seeds.hashOf(s, t), (int) hashOf(s, t));
    }
  }

  private static void bothDue(int s, long n) {
    BigInteger bound = BigInteger.valueOf(n);
    int bits = 0;
    while (BigInteger.ONE.shiftLeft(bits).compareTo(bound) < 0) {
      bits++;
    }
    int tries = 0;
    BigInteger value;
    do {
      BigInteger high = BigInteger.valueOf(hashOf(s, 2 * tries + 1));
      BigInteger low = BigInteger.valueOf(hashOf(s, 2 * tries + 2));
      value = high.shiftLeft(32).add(low).shiftRight(64 - bits);
      tries++;
    } while (value.compareTo(bound) >= 0);
    Check.due("pick(" + s + ", " + n + ")", DRAWS.pick(s, n), value.longValueExact());
    Check.due("tries(" + s + ", " + n + ")", DRAWS.tries(s, n), tries);
  }

  private static void ordinaryBounds() {
    Random random = new Random(2);
    for (int i = 0; i < 2000; i++) {
      long n = (random.nextLong() >>> 2 + random.nextInt(60)) + 1;
      bothDue(random.nextInt(), n);
    }
  }

  private static void edges() {
    for (int s = -5; s < 30; s++) {
      bothDue(s, 1);
      bothDue(s, 2);
      bothDue(s, 3);
      bothDue(s, MOST);
      bothDue(s, MOST - 1);
      for (int bits = 1; bits < 62; bits++) {
        bothDue(s, 1L << bits);
        bothDue(s, (1L << bits) + 1);
        bothDue(s, (1L << bits) - 1);
      }
    }
    // The seed of all that needs the most tries.
    Check.due("tries(-540338290, 2^61 + 1)", DRAWS.tries(-540338290, (1L << 61) + 1), 32);
    bothDue(-540338290, (1L << 61) + 1);
  }

  private static void wrongBounds() {
    long[] wrong = {0, -1, Long.MIN_VALUE, -MOST, MOST + 1, Long.MAX_VALUE};
    for (long n : wrong) {
      Check.due("pick(5, " + n + ")", DRAWS.pick(5, n), PastDraws.BAD);
      Check.due("tries(5, " + n + ")", DRAWS.tries(5, n), PastDraws.BAD);
    }
  }
}
