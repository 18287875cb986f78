import java.util.Arrays;

/** WEIGHTS, THE TABLE and promises 23 to 26: each sentence that names a boundary, with a test of its own. */
public final class WeightsEdgesTest {
  private static final int BAD = PastDraws.BAD;
  private static final int NONE = PastDraws.NONE;
  private static final int LEAST = Integer.MIN_VALUE;
  private static final int MOST = Integer.MAX_VALUE;

  public static void main(String[] args) {
    oneThingAtFirst();
    howManyThereWere();
    allWeightsAreOne();
    thingsLimits();
    whichItWas();
    weightLimits();
    allTogether();
    neitherBelowNorAbove();
    firstOnesFirst();
    otherFallsBelow();
    noWeightForSome();
    oneThing();
    mostWeights();
    cellLimits();
    noTable();
    tellEdges();
    tellLimits();
    tellNoneFirst();
    Check.finish();
  }

  private static PastDraws weighed(int... weights) {
    PastDraws draws = new PastDraws(1);
    draws.things(weights.length);
    for (int thing = 0; thing < weights.length; thing++) {
      Check.due("weight(" + thing + ", " + weights[thing] + ")", draws.weight(thing, weights[thing]), 1);
    }
    return draws;
  }

  private static void cellsAreDue(PastDraws draws, int[] limits, int[] others) {
    for (int thing = 0; thing < limits.length; thing++) {
      Check.due("cell(" + thing + ", 0)", draws.cell(thing, 0), limits[thing]);
      Check.due("cell(" + thing + ", 1)", draws.cell(thing, 1), others[thing]);
    }
  }

  private static void oneThingAtFirst() {
    Check.sentence("WEIGHTS of m THINGS (1 .. 16; at first 1 each). Promise 23: (at first 1)");
    PastDraws draws = new PastDraws(12);
    Check.due("cell(0, 2) at first", draws.cell(0, 2), 1);
    Check.due("cell(0, 0) at first", draws.cell(0, 0), 1);
    Check.due("cell(0, 1) at first", draws.cell(0, 1), 0);
    Check.due("cell(1, 2) at first", draws.cell(1, 2), BAD);
    Check.due("tell(0) at first", draws.tell(0), 0);
    Check.due("tell(1) at first", draws.tell(1), BAD);
    Check.due("weight(1, 1) at first", draws.weight(1, 1), BAD);
    Check.due("weight(0, 1) at first", draws.weight(0, 1), 1);
    Check.due("things(1) at first", draws.things(1), 1);
  }

  private static void howManyThereWere() {
    Check.sentence("Promise 23: There are m THINGS (1 .. 16): how many there were");
    PastDraws draws = new PastDraws(1);
    int[] counts = {16, 16, 1, 1, 2, 15, 16};
    int before = 1;
    for (int m : counts) {
      Check.due("things(" + m + ")", draws.things(m), before);
      Check.due("weight(m - 1, 1)", draws.weight(m - 1, 1), 1);
      Check.due("weight(m, 1)", draws.weight(m, 1), BAD);
      Check.due("cell(m - 1, 2)", draws.cell(m - 1, 2), m);
      before = m;
    }
  }

  private static void allWeightsAreOne() {
    Check.sentence("Promise 23: all WEIGHTS are 1");
    PastDraws draws = weighed(0, 7, 1000);
    Check.due("things(3), as many as before", draws.things(3), 3);
    for (int thing = 0; thing < 3; thing++) {
      Check.due("weight(" + thing + ", 9)", draws.weight(thing, 9), 1);
    }
    Check.due("things(2), fewer", draws.things(2), 3);
    Check.due("cell(0, 2) of fewer", draws.cell(0, 2), 2);
    Check.due("things(16), more", draws.things(16), 2);
    for (int thing = 0; thing < 16; thing++) {
      Check.due("weight(" + thing + ", 1)", draws.weight(thing, 1), 1);
    }
    Check.due("cell(0, 2) of more", draws.cell(0, 2), 16);
  }

  private static void thingsLimits() {
    Check.sentence("Promise 23: m THINGS (1 .. 16). BAD");
    PastDraws draws = weighed(5, 6);
    int[] wrong = {0, -1, -2, LEAST, 17, 18, 32, MOST};
    for (int m : wrong) {
      Check.due("things(" + m + ")", draws.things(m), BAD);
      Check.due("cell(0, 2) still", draws.cell(0, 2), 11);
    }
    Check.due("weight(0, 1)", draws.weight(0, 1), 5);
    Check.due("weight(1, 1)", draws.weight(1, 1), 6);
    Check.due("things(1)", draws.things(1), 2);
  }

  private static void whichItWas() {
    Check.sentence("Promise 24: WEIGHT of a THING (0 .. 1000): which it was");
    PastDraws draws = new PastDraws(1);
    draws.things(16);
    for (int thing = 0; thing < 16; thing += 15) {
      Check.due("weight(" + thing + ", 0)", draws.weight(thing, 0), 1);
      Check.due("weight(" + thing + ", 1000)", draws.weight(thing, 1000), 0);
      Check.due("weight(" + thing + ", 1000) again", draws.weight(thing, 1000), 1000);
      Check.due("weight(" + thing + ", 3)", draws.weight(thing, 3), 1000);
      Check.due("cell(0, 2)", draws.cell(0, 2), 16 + (thing == 0 ? 2 : 4));
    }
    Check.due("weight(7, 1), another", draws.weight(7, 1), 1);
  }

  private static void weightLimits() {
    Check.sentence("Promise 24: WEIGHT (0 .. 1000). BAD");
    PastDraws draws = weighed(5, 6, 7);
    int[] wrongWeights = {-1, -2, LEAST, 1001, 1002, MOST};
    for (int w : wrongWeights) {
      Check.due("weight(0, " + w + ")", draws.weight(0, w), BAD);
      Check.due("weight(2, " + w + ")", draws.weight(2, w), BAD);
      Check.due("weight(3, " + w + ")", draws.weight(3, w), BAD);
    }
    int[] wrongThings = {-1, -2, LEAST, 3, 4, 15, 16, MOST};
    for (int thing : wrongThings) {
      Check.due("weight(" + thing + ", 0)", draws.weight(thing, 0), BAD);
      Check.due("weight(" + thing + ", 1000)", draws.weight(thing, 1000), BAD);
    }
    Check.due("cell(0, 2) still", draws.cell(0, 2), 18);
    draws.things(16);
    Check.due("cell(0, 2) of all", draws.cell(0, 2), 16);
  }

  private static void allTogether() {
    Check.sentence("S is all of them together");
    PastDraws draws = weighed(1000, 0, 7);
    Check.due("cell(0, 2)", draws.cell(0, 2), 1007);
    Check.due("cell(2, 2)", draws.cell(2, 2), 1007);
    // A thing that is no more counts for nothing.
    draws.things(2);
    Check.due("cell(0, 2) of two", draws.cell(0, 2), 2);
  }

  private static void neitherBelowNorAbove() {
    Check.sentence("REST below S .. REST above S .. All further cells: LIMIT S, OTHER the THING itself");
    // All are just S: none is below, none above.
    cellsAreDue(weighed(7, 7, 7), new int[] {21, 21, 21}, new int[] {0, 1, 2});
    // Thing 0 is just S and no other of any: 4 of 12 with three things.
    cellsAreDue(weighed(4, 3, 5), new int[] {12, 9, 12}, new int[] {0, 2, 2});
    // One below by the least there is, one above by it: 3 and 5 of 8, two things.
    cellsAreDue(weighed(3, 5), new int[] {6, 8}, new int[] {1, 1});
    cellsAreDue(weighed(999, 1000), new int[] {1998, 1999}, new int[] {1, 1});
    cellsAreDue(weighed(1000, 999), new int[] {1999, 1998}, new int[] {0, 0});
  }

  private static void firstOnesFirst() {
    Check.sentence("the first such, a, has its cell .. the first THING b whose cell is not made and whose REST is above S");
    // RESTs 4 4 16 16 of S 10: 0 has 6 of 2, which leaves 10; then 1 has 6 of 3.
    cellsAreDue(weighed(1, 1, 4, 4), new int[] {4, 4, 10, 10}, new int[] {2, 3, 2, 3});
    // RESTs 16 16 4 4: the ones above are first here.
    cellsAreDue(weighed(4, 4, 1, 1), new int[] {10, 10, 4, 4}, new int[] {0, 1, 0, 1});
  }

  // RESTs 12 0 12 8 of S 8: 1 has all 8 of 0, which leaves 4 there; so 0 comes next, ahead of all behind it.
  private static void otherFallsBelow() {
    Check.sentence("REST of b is less by S less LIMIT then: and may be below S itself");
    PastDraws draws = weighed(3, 0, 3, 2);
    cellsAreDue(draws, new int[] {4, 0, 8, 8}, new int[] {2, 0, 2, 3});
    int[] due = {0, 0, 0, 0, 2, 2, 2, 2, 0, 0, 0, 0, 0, 0, 0, 0, 2, 2, 2, 2, 2, 2, 2, 2, 3, 3, 3, 3, 3, 3, 3, 3};
    for (int v = 0; v < 32; v++) {
      Check.due("tell(" + v + ")", draws.tell(v), due[v]);
    }
    // RESTs 0 12 4 16 of S 8: 0 has 8 of 1, which leaves 4; 1 is next, ahead of 2, and has 4 of 3; then 2.
    cellsAreDue(weighed(0, 3, 1, 4), new int[] {0, 4, 4, 8}, new int[] {1, 3, 3, 3});
  }

  private static void noWeightForSome() {
    Check.sentence("WEIGHTS 0 ..: a THING of none is never told");
    PastDraws draws = weighed(0, 0, 5, 0);
    cellsAreDue(draws, new int[] {0, 0, 5, 0}, new int[] {2, 2, 2, 2});
    for (int v = 0; v < 20; v++) {
      Check.due("tell(" + v + ")", draws.tell(v), 2);
    }
    Check.due("tell(20)", draws.tell(20), BAD);
  }

  private static void oneThing() {
    Check.sentence("m THINGS (1 ..): one alone");
    int[] weights = {1, 2, 1000};
    for (int w : weights) {
      PastDraws draws = weighed(w);
      cellsAreDue(draws, new int[] {w}, new int[] {0});
      Check.due("cell(0, 2)", draws.cell(0, 2), w);
      Check.due("tell(0)", draws.tell(0), 0);
      Check.due("tell(w - 1)", draws.tell(w - 1), 0);
      Check.due("tell(w)", draws.tell(w), BAD);
    }
  }

  private static void mostWeights() {
    Check.sentence("WEIGHTS .. 1000 of m THINGS (.. 16)");
    int[] weights = new int[16];
    int[] limits = new int[16];
    int[] others = new int[16];
    for (int thing = 0; thing < 16; thing++) {
      weights[thing] = 1000;
      limits[thing] = 16000;
      others[thing] = thing;
    }
    PastDraws draws = weighed(weights);
    cellsAreDue(draws, limits, others);
    Check.due("cell(15, 2)", draws.cell(15, 2), 16000);
    Check.due("tell(255999)", draws.tell(255999), 15);
    Check.due("tell(256000)", draws.tell(256000), BAD);
    // All but the last have none, so that all of them have it as their other.
    Arrays.fill(weights, 0, 15, 0);
    Arrays.fill(limits, 0, 15, 0);
    Arrays.fill(others, 15);
    limits[15] = 1000;
    draws = weighed(weights);
    cellsAreDue(draws, limits, others);
    Check.due("tell(15999)", draws.tell(15999), 15);
    Check.due("tell(16000)", draws.tell(16000), BAD);
  }

  private static void cellLimits() {
    Check.sentence("Promise 25: Of a THING's cell: 0 LIMIT, 1 OTHER; 2 S. BAD");
    PastDraws draws = weighed(5, 6, 7);
    int[] wrongParts = {-1, -2, LEAST, 3, 4, MOST};
    for (int what : wrongParts) {
      Check.due("cell(0, " + what + ")", draws.cell(0, what), BAD);
      Check.due("cell(2, " + what + ")", draws.cell(2, what), BAD);
      Check.due("cell(3, " + what + ")", draws.cell(3, what), BAD);
    }
    int[] wrongThings = {-1, -2, LEAST, 3, 4, 15, 16, MOST};
    for (int thing : wrongThings) {
      for (int what = 0; what < 3; what++) {
        Check.due("cell(" + thing + ", " + what + ")", draws.cell(thing, what), BAD);
      }
    }
    Check.due("cell(0, 0)", draws.cell(0, 0), 15);
    Check.due("cell(0, 1)", draws.cell(0, 1), 2);
    Check.due("cell(0, 2)", draws.cell(0, 2), 18);
    Check.due("cell(2, 0)", draws.cell(2, 0), 18);
  }

  private static void noTable() {
    Check.sentence("Promise 25: BAD; NONE: S is 0: BAD first");
    int[] counts = {1, 2, 16};
    for (int m : counts) {
      PastDraws draws = weighed(new int[m]);
      for (int what = 0; what < 3; what++) {
        Check.due("cell(0, " + what + ")", draws.cell(0, what), NONE);
        Check.due("cell(m - 1, " + what + ")", draws.cell(m - 1, what), NONE);
        Check.due("cell(m, " + what + ")", draws.cell(m, what), BAD);
        Check.due("cell(-1, " + what + ")", draws.cell(-1, what), BAD);
      }
      Check.due("cell(0, 3)", draws.cell(0, 3), BAD);
      Check.due("cell(0, -1)", draws.cell(0, -1), BAD);
      draws.weight(m - 1, 1);
      Check.due("cell(0, 2), of 1", draws.cell(0, 2), 1);
      Check.due("cell(m - 1, 0), of 1", draws.cell(m - 1, 0), 1);
      draws.weight(m - 1, 0);
      Check.due("cell(0, 2), of 0 again", draws.cell(0, 2), NONE);
      draws.things(m);
      Check.due("cell(0, 2), of m things", draws.cell(0, 2), m);
    }
  }

  private static void tellEdges() {
    Check.sentence("A number v below m S tells THING a, v by S, cut, if v modulo S is below its LIMIT, else the OTHER of a");
    // S 6: limits 6 3 0, others 0.
    PastDraws draws = weighed(5, 1, 0);
    cellsAreDue(draws, new int[] {6, 3, 0}, new int[] {0, 0, 0});
    int[] due = {0, 0, 0, 0, 0, 0, 1, 1, 1, 0, 0, 0, 0, 0, 0, 0, 0, 0};
    for (int v = 0; v < 18; v++) {
      Check.due("tell(" + v + ")", draws.tell(v), due[v]);
    }
    // S 8: limits 6 8, other of the first is the second.
    draws = weighed(3, 5);
    for (int v = 0; v < 16; v++) {
      Check.due("tell(" + v + ")", draws.tell(v), v < 6 ? 0 : 1);
    }
  }

  private static void tellLimits() {
    Check.sentence("Promise 26: BAD: v is not 0 .. m S - 1");
    PastDraws draws = weighed(5, 6, 7);
    // A v that is less than S below 0 is cut to thing 0.
    int[] wrong = {-1, -2, -17, -18, -19, LEAST, LEAST + 1, 54, 55, 71, 72, 18 * 16, MOST};
    for (int v : wrong) {
      Check.due("tell(" + v + ")", draws.tell(v), BAD);
    }
    Check.due("tell(0)", draws.tell(0), 0);
    Check.due("tell(53)", draws.tell(53), 2);
  }

  private static void tellNoneFirst() {
    Check.sentence("Promise 26: NONE: S is 0 (first)");
    int[] counts = {1, 3, 16};
    int[] any = {0, 1, -1, -2, 16, LEAST, MOST};
    for (int m : counts) {
      PastDraws draws = weighed(new int[m]);
      for (int v : any) {
        Check.due("tell(" + v + ") of " + m, draws.tell(v), NONE);
      }
      draws.weight(0, 1);
      Check.due("tell(-1) of S 1", draws.tell(-1), BAD);
      Check.due("tell(m - 1) of S 1", draws.tell(m - 1), 0);
      Check.due("tell(m) of S 1", draws.tell(m), BAD);
    }
  }
}
