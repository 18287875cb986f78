import java.util.ArrayList;
import java.util.List;
import java.util.Random;

/** Promises 23 to 26: things, weights and their table. */
public final class WeightsTest {
  private static final int BAD = PastDraws.BAD;
  private static final int NONE = PastDraws.NONE;

  private final Renewed draws = new Renewed(2);
  private int[] weights = {1};

  public static void main(String[] args) {
    WeightsTest test = new WeightsTest();
    test.tableIsDue();
    Random random = new Random(5);
    for (int m = 1; m <= 16; m++) {
      for (int kind = 0; kind < 6; kind++) {
        test.setThings(m);
        test.tableIsDue();
        test.setWeights(random, kind);
        test.wrongNumbers();
        test.tableIsDue();
      }
    }
    test.setThings(3);
    test.setThings(3);
    test.tableIsDue();
    allAreMost();
    weightsComeBack();
    Check.finish();
  }

  private void setThings(int m) {
    Check.due("things(" + m + ")", draws.things(m), weights.length);
    weights = new int[m];
    java.util.Arrays.fill(weights, 1);
  }

  private void setWeight(int thing, int w) {
    Check.due("weight(" + thing + ", " + w + ")", draws.weight(thing, w), weights[thing]);
    weights[thing] = w;
  }

  // Kind 0: any; 1: small; 2: many zeros; 3: the edges alone; 4: one far above; 5: all zeros.
  private void setWeights(Random random, int kind) {
    for (int thing = 0; thing < weights.length; thing++) {
      int w = random.nextInt(1001);
      switch (kind) {
        case 1: w = random.nextInt(4); break;
        case 2: w = random.nextInt(3) == 0 ? w : 0; break;
        case 3: w = random.nextBoolean() ? 1000 : 0; break;
        case 4: w = thing == weights.length / 2 ? 1000 : 1; break;
        case 5: w = 0; break;
        default: break;
      }
      setWeight(thing, w);
    }
  }

  private int sum() {
    int sum = 0;
    for (int w : weights) {
      sum += w;
    }
    return sum;
  }

  private void tableIsDue() {
    int m = weights.length;
    int sum = sum();
    if (sum == 0) {
      noTable(m);
      return;
    }
    int[] limit = new int[m];
    int[] other = new int[m];
    fillTable(limit, other);
    for (int thing = 0; thing < m; thing++) {
      Check.due("cell(" + thing + ", 0)", draws.cell(thing, 0), limit[thing]);
      Check.due("cell(" + thing + ", 1)", draws.cell(thing, 1), other[thing]);
      Check.due("cell(" + thing + ", 2)", draws.cell(thing, 2), sum);
    }
    Check.due("cell(m, 2)", draws.cell(m, 2), BAD);
    int[] told = new int[m];
    for (int v = 0; v < m * sum; v++) {
      int a = v / sum;
      int thing = draws.tell(v);
      Check.due("tell(" + v + ")", thing, v % sum < limit[a] ? a : other[a]);
      told[Math.max(0, Math.min(m - 1, thing))]++;
    }
    for (int thing = 0; thing < m; thing++) {
      Check.due("how often " + thing + " is told", told[thing], m * weights[thing]);
    }
    int[] wrong = {-1, m * sum, -sum, Integer.MIN_VALUE, Integer.MAX_VALUE};
    for (int v : wrong) {
      Check.due("tell(" + v + ")", draws.tell(v), BAD);
    }
  }

  private void noTable(int m) {
    int[] any = {0, -1, 1, 99, Integer.MIN_VALUE, Integer.MAX_VALUE};
    for (int v : any) {
      Check.due("tell(" + v + ") of no table", draws.tell(v), NONE);
    }
    for (int what = 0; what < 3; what++) {
      Check.due("cell(0, " + what + ") of no table", draws.cell(0, what), NONE);
      Check.due("cell(m, " + what + ") of no table", draws.cell(m, what), BAD);
    }
    Check.due("cell(0, 3) of no table", draws.cell(0, 3), BAD);
  }

  private void fillTable(int[] limit, int[] other) {
    int m = weights.length;
    int sum = sum();
    int[] rest = new int[m];
    List<Integer> open = new ArrayList<>();
    for (int thing = 0; thing < m; thing++) {
      rest[thing] = m * weights[thing];
      open.add(thing);
    }
    while (open.stream().anyMatch(thing -> rest[thing] < sum)) {
      int a = open.stream().filter(thing -> rest[thing] < sum).findFirst().get();
      int b = open.stream().filter(thing -> rest[thing] > sum).findFirst().get();
      open.remove(Integer.valueOf(a));
      limit[a] = rest[a];
      other[a] = b;
      rest[b] -= sum - limit[a];
    }
    for (int thing : open) {
      limit[thing] = sum;
      other[thing] = thing;
    }
  }

  private void wrongNumbers() {
    int m = weights.length;
    int[] wrongThings = {-1, m, 16, Integer.MIN_VALUE, Integer.MAX_VALUE};
    for (int wrong : wrongThings) {
      Check.due("weight(" + wrong + ", 5)", draws.weight(wrong, 5), BAD);
      Check.due("cell(" + wrong + ", 0)", draws.cell(wrong, 0), BAD);
    }
    int[] wrongWeights = {-1, -2, 1001, Integer.MIN_VALUE, Integer.MAX_VALUE};
    for (int wrong : wrongWeights) {
      Check.due("weight(0, " + wrong + ")", draws.weight(0, wrong), BAD);
    }
    int[] wrongCounts = {0, -1, 17, Integer.MIN_VALUE, Integer.MAX_VALUE};
    for (int wrong : wrongCounts) {
      Check.due("things(" + wrong + ")", draws.things(wrong), BAD);
    }
    int[] wrongParts = {-1, 3, Integer.MIN_VALUE, Integer.MAX_VALUE};
    for (int wrong : wrongParts) {
      Check.due("cell(0, " + wrong + ")", draws.cell(0, wrong), BAD);
    }
  }

  private static void allAreMost() {
    WeightsTest test = new WeightsTest();
    test.setThings(16);
    for (int thing = 0; thing < 16; thing++) {
      test.setWeight(thing, 1000);
    }
    test.tableIsDue();
    test.setWeight(7, 999);
    test.tableIsDue();
  }

  // Things that are there again have weight 1, whatever they had before.
  private static void weightsComeBack() {
    WeightsTest test = new WeightsTest();
    test.setThings(5);
    test.setWeight(4, 70);
    test.setThings(2);
    test.setThings(5);
    test.tableIsDue();
    Check.due("weight(4, 3)", test.draws.weight(4, 3), 1);
  }
}
