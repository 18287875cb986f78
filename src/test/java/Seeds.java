/** HASH and SIGN read from the document in longs, and seeds that have the ones a test wants. */
final class Seeds {
  private static final long MASK = 0xFFFFFFFFL;
  private static final long STEP = 0x9E3779B9L;
  private static final long FIRST = 0x85EBCA6BL;
  private static final long SECOND = 0xC2B2AE35L;

  private Seeds() {
  }

  static int hashOf(int s, int t) {
    long x = (s + (t & MASK) * STEP) & MASK;
    x = (x ^ x >> 16) * FIRST & MASK;
    x = (x ^ x >> 13) * SECOND & MASK;
    return (int) (x ^ x >> 16);
  }

  static int signOf(int s, int t) {
    return (int) ((hashOf(s, t) & MASK) / (1 << 29));
  }

  /** The one seed whose HASH at t is the one given: HASH, gone through backwards. */
  static int seedWith(int hash, int t) {
    long x = hash & MASK;
    x = (x ^ x >> 16) * inverse(SECOND) & MASK;
    x = (x ^ x >> 13 ^ x >> 26) * inverse(FIRST) & MASK;
    x = x ^ x >> 16;
    int seed = (int) (x - (t & MASK) * STEP);
    Check.due("the seed with HASH " + hash + " at " + t, hashOf(seed, t), hash);
    return seed;
  }

  // Newton's steps double the bits that are right; an odd number is right to three bits as its own inverse.
  private static long inverse(long odd) {
    long inverse = odd;
    for (int i = 0; i < 5; i++) {
      inverse *= 2 - odd * inverse;
    }
    return inverse & MASK;
  }

  /** The first seed from 0 on whose PAST begins with these SIGNS. */
  static int seedWithSigns(int... signs) {
    int seed = 0;
    while (!startsWith(seed, signs)) {
      seed++;
    }
    return seed;
  }

  private static boolean startsWith(int seed, int[] signs) {
    for (int i = 0; i < signs.length; i++) {
      if (signOf(seed, i + 1) != signs[i]) {
        return false;
      }
    }
    return true;
  }
}
