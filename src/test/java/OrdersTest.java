import java.util.ArrayList;
import java.util.List;
import java.util.Random;

/** Promises 19 to 22: permutations under rules, against all of them tried in order. */
public final class OrdersTest {
  private static final int BAD = PastDraws.BAD;
  private static final int NONE = PastDraws.NONE;

  private final Renewed draws = new Renewed(2);
  private final boolean[][] allowed = new boolean[8][8];

  private OrdersTest() {
    for (boolean[] row : allowed) {
      java.util.Arrays.fill(row, true);
    }
  }

  public static void main(String[] args) {
    OrdersTest first = new OrdersTest();
    first.allOf(8);
    first.wrongNumbers();
    for (int kind = 0; kind < 6; kind++) {
      OrdersTest test = new OrdersTest();
      Random random = new Random(kind);
      for (int turn = 0; turn < 3; turn++) {
        test.setRules(random, kind);
        test.wrongNumbers();
        for (int m = 1; m <= 6; m++) {
          test.allOf(m);
        }
        test.anyPlaces(random);
      }
      test.allOf(7);
      test.allOf(8);
    }
    noneAtAll();
    Check.finish();
  }

  private void setRules(Random random, int kind) {
    for (int place = 0; place < 8; place++) {
      for (int number = 0; number < 8; number++) {
        boolean is = random.nextInt(8) >= kind;
        Check.due("allow(" + place + ", " + number + ", " + is + ")", draws.allow(place, number, is),
            allowed[place][number] ? 1 : 0);
        allowed[place][number] = is;
      }
    }
  }

  private void collect(int m, int[] numbers, int place, List<int[]> all) {
    if (place == m) {
      all.add(numbers.clone());
      return;
    }
    for (int number = 0; number < m; number++) {
      boolean isFree = allowed[place][number];
      for (int i = 0; i < place; i++) {
        isFree &= numbers[i] != number;
      }
      if (isFree) {
        numbers[place] = number;
        collect(m, numbers, place + 1, all);
      }
    }
  }

  private static int packed(int[] numbers) {
    int p = 0;
    for (int i = 0; i < numbers.length; i++) {
      p |= numbers[i] << 3 * i;
    }
    return p;
  }

  private void allOf(int m) {
    List<int[]> all = new ArrayList<>();
    collect(m, new int[m], 0, all);
    Check.due("permutations(" + m + ")", draws.permutations(m), all.size());
    int stride = all.size() / 500 + 1;
    for (int number = 0; number < all.size(); number += stride) {
      int[] numbers = all.get(number);
      for (int i = 0; i < m; i++) {
        Check.due("permutation(" + m + ", " + number + ", " + i + ")", draws.permutation(m, number, i), numbers[i]);
      }
      Check.due("place(" + m + ", " + packed(numbers) + ")", draws.place(m, packed(numbers)), number);
      int bitsAbove = -1 << 3 * m;
      Check.due("place with bits above", draws.place(m, packed(numbers) | bitsAbove), number);
    }
    Check.due("permutation behind the last", draws.permutation(m, all.size(), 0), BAD);
    Check.due("a place behind the last", draws.permutation(m, 0, m), BAD);
    Check.due("a place ahead of the first", draws.permutation(m, 0, -1), BAD);
    Check.due("a number below 0", draws.permutation(m, -1, 0), BAD);
  }

  private void anyPlaces(Random random) {
    List<int[]> all = new ArrayList<>();
    collect(3, new int[3], 0, all);
    for (int p = 0; p < 512; p++) {
      int due = NONE;
      for (int number = 0; number < all.size(); number++) {
        due = packed(all.get(number)) == p ? number : due;
      }
      Check.due("place(3, " + p + ")", draws.place(3, p), due);
    }
    Check.due("place(8, 0)", draws.place(8, 0), NONE);
    Check.due("place(2, 7)", draws.place(2, 7 | random.nextInt(8) << 3), NONE);
  }

  private void wrongNumbers() {
    int[] wrongPlaces = {-1, 8, -2, Integer.MIN_VALUE, Integer.MAX_VALUE};
    for (int wrong : wrongPlaces) {
      Check.due("allow(" + wrong + ", 0, false)", draws.allow(wrong, 0, false), BAD);
      Check.due("allow(0, " + wrong + ", false)", draws.allow(0, wrong, false), BAD);
      Check.due("allow(0, " + wrong + ", true)", draws.allow(0, wrong, true), BAD);
    }
    int[] wrongCounts = {0, -1, 9, Integer.MIN_VALUE, Integer.MAX_VALUE};
    for (int wrong : wrongCounts) {
      Check.due("permutations(" + wrong + ")", draws.permutations(wrong), BAD);
      Check.due("permutation(" + wrong + ", 0, 0)", draws.permutation(wrong, 0, 0), BAD);
      Check.due("place(" + wrong + ", 0)", draws.place(wrong, 0), BAD);
    }
    Check.due("permutation(8, 40320, 0)", draws.permutation(8, 40320, 0), BAD);
    Check.due("permutation(8, most, 0)", draws.permutation(8, Integer.MAX_VALUE, 0), BAD);
    Check.due("permutation(8, 0, most)", draws.permutation(8, 0, Integer.MAX_VALUE), BAD);
    Check.due("permutation(8, least, 0)", draws.permutation(8, Integer.MIN_VALUE, 0), BAD);
  }

  private static void noneAtAll() {
    PastDraws draws = new PastDraws(1);
    for (int number = 0; number < 8; number++) {
      Check.due("allow(3, number, false)", draws.allow(3, number, false), 1);
    }
    Check.due("permutations(3)", draws.permutations(3), 6);
    Check.due("permutations(4)", draws.permutations(4), 0);
    Check.due("permutation(4, 0, 0)", draws.permutation(4, 0, 0), BAD);
    Check.due("place(4, 0 1 2 3)", draws.place(4, 0 | 1 << 3 | 2 << 6 | 3 << 9), NONE);
    Check.due("place(9, ..)", draws.place(9, 0), BAD);
  }
}
