import com.sun.management.ThreadMXBean;
import java.lang.management.ManagementFactory;

/** All calls of a run share one small room: only the constructor may make objects, and few of them. */
public final class RoomTest {
  private static final ThreadMXBean THREADS = (ThreadMXBean) ManagementFactory.getThreadMXBean();

  public static void main(String[] args) {
    PastDraws draws = new PastDraws(12);
    for (int state = 0; state < 12; state++) {
      for (int sign = 0; sign < 8; sign++) {
        draws.rule(state, sign, (state * 5 + sign) % 12);
      }
      for (int letter = 0; letter < 4; letter++) {
        draws.lead(state, letter, (state + letter) % 12);
      }
      draws.end(state, true);
    }
    allCalls(draws);
    // What the machine itself may make now and then is in some turns, what calls make is in all.
    long least = Long.MAX_VALUE;
    for (int turn = 0; turn < 9; turn++) {
      long start = madeSoFar();
      allCalls(draws);
      least = Math.min(least, madeSoFar() - start);
    }
    Check.due("bytes that a turn of all calls makes", least, 0);

    long before = madeSoFar();
    PastDraws[] many = new PastDraws[100];
    for (int i = 0; i < many.length; i++) {
      many[i] = new PastDraws(12);
    }
    // 512 objects of 12 states stay below 7.3 million elements even if each were of 4 bytes alone.
    long each = (madeSoFar() - before) / many.length;
    Check.holds("an object has " + each + " bytes", many[99] != null && each < 7300000L * 4 / 512);
    Check.finish();
  }

  private static long madeSoFar() {
    return THREADS.getThreadAllocatedBytes(Thread.currentThread().getId());
  }

  private static void allCalls(PastDraws draws) {
    draws.hash(1, 2);
    draws.pick(1, 1L << 61);
    draws.tries(1, 1L << 61);
    draws.rule(1, 2, 3);
    draws.taken(1, 4096, 3);
    draws.past(1, 4096);
    draws.fold(1, 4096);
    draws.bounding(1, 64);
    draws.monotone();
    draws.counted(5, -1);
    draws.trees(-1);
    draws.once(1, 64, 99);
    draws.lead(1, 2, 3);
    draws.end(1, true);
    draws.words(25);
    draws.word(25, 7, 24);
    draws.rank(25, 7);
    draws.allow(1, 2, true);
    draws.permutations(8);
    draws.permutation(8, 40319, 7);
    draws.place(8, 7);
    draws.things(16);
    draws.weight(3, 7);
    draws.cell(3, 1);
    draws.tell(9);
  }
}
