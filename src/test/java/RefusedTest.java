import java.util.ArrayList;
import java.util.List;
import java.util.function.ToLongFunction;

/** "BAD .. NONE .. Of several the first one. What is refused changes nothing.": for every call that can be refused. */
public final class RefusedTest {
  private static final int BAD = PastDraws.BAD;
  private static final int NONE = PastDraws.NONE;
  private static final int LEAST = Integer.MIN_VALUE;
  private static final int MOST = Integer.MAX_VALUE;

  private record Call(String text, ToLongFunction<PastDraws> call, long due) {
  }

  private final Told told;
  private final int n;
  private final int m;
  private final List<Call> refused = new ArrayList<>();

  private RefusedTest(Told told) {
    this.told = told;
    n = told.n;
    m = told.weights.length;
  }

  public static void main(String[] args) {
    Told[] all = {new Told(1, 3), new Told(4, 5, 0, 7, 1000), new Told(12, 1, 2, 3, 4, 999)};
    for (Told told : all) {
      RefusedTest test = new RefusedTest(told);
      test.listAll();
      test.eachAlone();
      test.eachOfANewObject();
      test.asksChangeNothing();
    }
    RefusedTest together = new RefusedTest(new Told(4, 5, 0, 7, 1000));
    together.listAll();
    together.allTogether();
    noneChangesNothing();
    firstOfSeveral();
    Check.finish();
  }

  private void add(String text, ToLongFunction<PastDraws> call) {
    refused.add(new Call(text, call, BAD));
  }

  private void listAll() {
    listNumbers();
    listChain();
    listRows();
    listWords();
    listOrders();
    listWeights();
  }

  private void listNumbers() {
    long[] bounds = {0, -1, Long.MIN_VALUE, (1L << 62) + 1, Long.MAX_VALUE};
    for (long bound : bounds) {
      add("pick(5, " + bound + ")", draws -> draws.pick(5, bound));
      add("tries(5, " + bound + ")", draws -> draws.tries(5, bound));
    }
  }

  private void listChain() {
    int[] states = {-1, -2, n, LEAST, MOST};
    for (int state : states) {
      add("rule(" + state + ", 0, 0)", draws -> draws.rule(state, 0, 0));
      add("rule(0, 0, " + state + ")", draws -> draws.rule(0, 0, state));
      add("rule(n - 1, 7, " + state + ")", draws -> draws.rule(n - 1, 7, state));
      add("taken(5, 1, " + state + ")", draws -> draws.taken(5, 1, state));
      add("end(" + state + ", true)", draws -> draws.end(state, true));
      add("end(" + state + ", false)", draws -> draws.end(state, false));
      add("lead(" + state + ", 0, 0)", draws -> draws.lead(state, 0, 0));
      add("lead(" + state + ", 3, NONE)", draws -> draws.lead(state, 3, NONE));
      if (state != -1) {
        add("counted(1, " + state + ")", draws -> draws.counted(1, state));
        add("trees(" + state + ")", draws -> draws.trees(state));
      }
      if (state != NONE) {
        add("lead(0, 0, " + state + ")", draws -> draws.lead(0, 0, state));
        add("lead(n - 1, 3, " + state + ")", draws -> draws.lead(n - 1, 3, state));
      }
    }
    int[] signs = {-1, 8, LEAST, MOST};
    for (int sign : signs) {
      add("rule(0, " + sign + ", 0)", draws -> draws.rule(0, sign, 0));
      add("rule(n - 1, " + sign + ", n - 1)", draws -> draws.rule(n - 1, sign, n - 1));
    }
    int[] letters = {-1, 4, LEAST, MOST};
    for (int letter : letters) {
      add("lead(0, " + letter + ", 0)", draws -> draws.lead(0, letter, 0));
      add("lead(n - 1, " + letter + ", NONE)", draws -> draws.lead(n - 1, letter, NONE));
    }
    add("rule(-1, 8, n)", draws -> draws.rule(-1, 8, n));
    add("lead(n, 4, -1)", draws -> draws.lead(n, 4, -1));
  }

  private void listRows() {
    int[] lengths = {0, -1, 4097, LEAST, MOST};
    for (int length : lengths) {
      add("taken(5, " + length + ", 0)", draws -> draws.taken(5, length, 0));
      add("past(5, " + length + ")", draws -> draws.past(5, length));
      add("fold(5, " + length + ")", draws -> draws.fold(5, length));
      add("bounding(5, " + length + ")", draws -> draws.bounding(5, length));
      add("counted(" + length + ", 0)", draws -> draws.counted(length, 0));
      add("counted(" + length + ", -1)", draws -> draws.counted(length, -1));
      add("once(5, " + length + ", 0)", draws -> draws.once(5, length, 0));
    }
    add("bounding(5, 65)", draws -> draws.bounding(5, 65));
    add("counted(6, 0)", draws -> draws.counted(6, 0));
    add("once(5, 65, 0)", draws -> draws.once(5, 65, 0));
    int[] numbers = {-1, 100, LEAST, MOST};
    for (int k : numbers) {
      add("once(5, 1, " + k + ")", draws -> draws.once(5, 1, k));
    }
  }

  private void listWords() {
    int[] lengths = {-1, 26, LEAST, MOST};
    for (int length : lengths) {
      add("words(" + length + ")", draws -> draws.words(length));
      add("word(" + length + ", 0, 0)", draws -> draws.word(length, 0, 0));
      add("rank(" + length + ", 0)", draws -> draws.rank(length, 0));
    }
    long[] numbers = {-1, 65, 1L << 32, Long.MIN_VALUE, Long.MAX_VALUE};
    for (long number : numbers) {
      add("word(3, " + number + ", 0)", draws -> draws.word(3, number, 0));
    }
    int[] letters = {-1, 3, LEAST, MOST};
    for (int i : letters) {
      add("word(3, 0, " + i + ")", draws -> draws.word(3, 0, i));
    }
    add("word(0, 0, 0)", draws -> draws.word(0, 0, 0));
  }

  private void listOrders() {
    int[] numbers = {-1, 8, LEAST, MOST};
    for (int number : numbers) {
      add("allow(" + number + ", 0, false)", draws -> draws.allow(number, 0, false));
      add("allow(0, " + number + ", false)", draws -> draws.allow(0, number, false));
      add("allow(7, " + number + ", true)", draws -> draws.allow(7, number, true));
      add("allow(" + number + ", 7, true)", draws -> draws.allow(number, 7, true));
    }
    int[] counts = {0, -1, 9, LEAST, MOST};
    for (int count : counts) {
      add("permutations(" + count + ")", draws -> draws.permutations(count));
      add("permutation(" + count + ", 0, 0)", draws -> draws.permutation(count, 0, 0));
      add("place(" + count + ", 0)", draws -> draws.place(count, 0));
    }
    int[] ones = {-1, 24, LEAST, MOST};
    for (int one : ones) {
      add("permutation(4, " + one + ", 0)", draws -> draws.permutation(4, one, 0));
    }
    int[] places = {-1, 4, LEAST, MOST};
    for (int place : places) {
      add("permutation(4, 0, " + place + ")", draws -> draws.permutation(4, 0, place));
    }
  }

  private void listWeights() {
    int[] counts = {0, -1, 17, LEAST, MOST};
    for (int count : counts) {
      add("things(" + count + ")", draws -> draws.things(count));
    }
    int[] things = {-1, m, 16, LEAST, MOST};
    for (int thing : things) {
      add("weight(" + thing + ", 9)", draws -> draws.weight(thing, 9));
      add("cell(" + thing + ", 0)", draws -> draws.cell(thing, 0));
      add("cell(" + thing + ", 2)", draws -> draws.cell(thing, 2));
    }
    int[] weights = {-1, 1001, LEAST, MOST};
    for (int w : weights) {
      add("weight(0, " + w + ")", draws -> draws.weight(0, w));
    }
    int[] parts = {-1, 3, LEAST, MOST};
    for (int what : parts) {
      add("cell(0, " + what + ")", draws -> draws.cell(0, what));
    }
    int sum = 0;
    for (int w : told.weights) {
      sum += w;
    }
    int[] numbers = {-1, -sum, m * sum, LEAST, MOST};
    for (int v : numbers) {
      add("tell(" + v + ")", draws -> draws.tell(v));
    }
  }

  private static List<Call> asks() {
    List<Call> asks = new ArrayList<>();
    asks.add(new Call("monotone()", PastDraws::monotone, 0));
    asks.add(new Call("hash(5, 6)", draws -> draws.hash(5, 6), 0));
    asks.add(new Call("pick(5, 10^9)", draws -> draws.pick(5, 1000000000L), 0));
    asks.add(new Call("tries(5, 10^9)", draws -> draws.tries(5, 1000000000L), 0));
    asks.add(new Call("taken(5, 40, 0)", draws -> draws.taken(5, 40, 0), 0));
    asks.add(new Call("past(5, 4096)", draws -> draws.past(5, 4096), 0));
    asks.add(new Call("fold(5, 4096)", draws -> draws.fold(5, 4096), 0));
    asks.add(new Call("bounding(5, 64)", draws -> draws.bounding(5, 64), 0));
    asks.add(new Call("counted(2, -1)", draws -> draws.counted(2, -1), 0));
    asks.add(new Call("trees(-1)", draws -> draws.trees(-1), 0));
    asks.add(new Call("once(5, 3, 1)", draws -> draws.once(5, 3, 1), 0));
    asks.add(new Call("words(6)", draws -> draws.words(6), 0));
    asks.add(new Call("word(6, 0, 5)", draws -> draws.word(6, 0, 5), 0));
    asks.add(new Call("rank(6, 0)", draws -> draws.rank(6, 0), 0));
    asks.add(new Call("permutations(6)", draws -> draws.permutations(6), 0));
    asks.add(new Call("permutation(6, 0, 3)", draws -> draws.permutation(6, 0, 3), 0));
    asks.add(new Call("place(4, 2 0 3 1)", draws -> draws.place(4, 2 | 3 << 6 | 1 << 9), 0));
    asks.add(new Call("cell(0, 0)", draws -> draws.cell(0, 0), 0));
    asks.add(new Call("cell(0, 1)", draws -> draws.cell(0, 1), 0));
    asks.add(new Call("cell(0, 2)", draws -> draws.cell(0, 2), 0));
    asks.add(new Call("tell(3)", draws -> draws.tell(3), 0));
    return asks;
  }

  private static List<Call> answersOf(PastDraws draws) {
    List<Call> answers = new ArrayList<>();
    for (Call ask : asks()) {
      answers.add(new Call(ask.text, ask.call, ask.call.applyAsLong(draws)));
    }
    return answers;
  }

  private void eachAlone() {
    Check.sentence("BAD .. What is refused changes nothing");
    List<Call> answers = answersOf(told.make());
    for (Call one : refused) {
      PastDraws draws = told.make();
      String after = "after " + one.text + " of " + n + " states";
      Check.due(one.text + " of " + n + " states", one.call.applyAsLong(draws), one.due);
      for (Call ask : answers) {
        Check.due(ask.text + " " + after, ask.call.applyAsLong(draws), ask.due);
      }
      told.allThere(after, draws);
    }
  }

  // A new object has one thing: what is no thing of m, is none of one.
  private void eachOfANewObject() {
    Check.sentence("BAD .. What is refused changes nothing, of a new object");
    for (Call one : refused) {
      PastDraws draws = new PastDraws(n);
      Check.due(one.text + " of a new object of " + n, one.call.applyAsLong(draws), one.due);
      Told.nothingThere("after " + one.text, n, draws);
    }
  }

  private void allTogether() {
    Check.sentence("BAD .. What is refused changes nothing, nor do many together");
    PastDraws draws = told.make();
    List<Call> answers = answersOf(told.make());
    Check.holds("an object has at most 512 calls, these are " + refused.size(), refused.size() < 225);
    for (Call one : refused) {
      Check.due(one.text + " among others", one.call.applyAsLong(draws), one.due);
    }
    for (Call ask : answers) {
      Check.due(ask.text + " after all", ask.call.applyAsLong(draws), ask.due);
    }
    told.allThere("after all", draws);
  }

  private void asksChangeNothing() {
    Check.sentence("Nothing is promised beyond the answers and state changes described above: asking is none");
    PastDraws draws = told.make();
    List<Call> answers = answersOf(draws);
    for (int i = answers.size() - 1; i >= 0; i--) {
      Call ask = answers.get(i);
      Check.due(ask.text + " asked again", ask.call.applyAsLong(draws), ask.due);
    }
    told.allThere("after all were asked", draws);
  }

  private static void noneChangesNothing() {
    Check.sentence("NONE: as told .. What is refused changes nothing");
    Told told = new Told(4, 0, 0, 0);
    List<Call> none = new ArrayList<>();
    none.add(new Call("cell(0, 0)", draws -> draws.cell(0, 0), NONE));
    none.add(new Call("cell(2, 2)", draws -> draws.cell(2, 2), NONE));
    none.add(new Call("tell(0)", draws -> draws.tell(0), NONE));
    none.add(new Call("tell(-1)", draws -> draws.tell(-1), NONE));
    none.add(new Call("place(3, 0)", draws -> draws.place(3, 0), NONE));
    // Letter 2 leads from state 0 nowhere.
    none.add(new Call("rank(3, 2 0 0)", draws -> draws.rank(3, 2), NONE));
    // Each sign takes each state to another one than all others, so that nothing meets.
    none.add(new Call("past(5, 4096)", draws -> draws.past(5, 4096), NONE));
    none.add(new Call("fold(5, 4096)", draws -> draws.fold(5, 4096), NONE));
    none.add(new Call("bounding(5, 64)", draws -> draws.bounding(5, 64), NONE));
    none.add(new Call("once(5, 64, 0)", draws -> draws.once(5, 64, 0), NONE));
    for (Call one : none) {
      PastDraws draws = told.make();
      Check.due(one.text, one.call.applyAsLong(draws), one.due);
      told.allThere("after " + one.text, draws);
    }
  }

  // Where both would be due, BAD stands first in the document, but for tell.
  private static void firstOfSeveral() {
    Check.sentence("Of several the first one");
    PastDraws draws = new PastDraws(2);
    Check.due("past(5, 0), none meets", draws.past(5, 0), BAD);
    Check.due("past(5, 4097), none meets", draws.past(5, 4097), BAD);
    Check.due("fold(5, 0), none meets", draws.fold(5, 0), BAD);
    Check.due("fold(5, 4097), none meets", draws.fold(5, 4097), BAD);
    Check.due("bounding(5, 0), none meets", draws.bounding(5, 0), BAD);
    Check.due("bounding(5, 65), none meets", draws.bounding(5, 65), BAD);
    Check.due("once(5, 0, 0), none meets", draws.once(5, 0, 0), BAD);
    Check.due("once(5, 65, 0), none meets", draws.once(5, 65, 0), BAD);
    Check.due("once(5, 1, -1), none meets", draws.once(5, 1, -1), BAD);
    Check.due("once(5, 1, 100), none meets", draws.once(5, 1, 100), BAD);
    Check.due("rank(-1, 0), no words", draws.rank(-1, 0), BAD);
    Check.due("rank(26, 0), no words", draws.rank(26, 0), BAD);
    Check.due("lead(2, 0, NONE), it led nowhere", draws.lead(2, 0, NONE), BAD);
    Check.due("lead(0, 4, NONE), it led nowhere", draws.lead(0, 4, NONE), BAD);
    Check.due("place(0, 0)", draws.place(0, 0), BAD);
    Check.due("place(9, 0)", draws.place(9, 0), BAD);
    draws.weight(0, 0);
    Check.due("cell(1, 0), S is 0", draws.cell(1, 0), BAD);
    Check.due("cell(-1, 2), S is 0", draws.cell(-1, 2), BAD);
    Check.due("cell(0, 3), S is 0", draws.cell(0, 3), BAD);
    Check.due("tell(-1), S is 0", draws.tell(-1), NONE);
    Check.due("tell(1), S is 0", draws.tell(1), NONE);
  }
}
