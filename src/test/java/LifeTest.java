/** For how many calls an object is used, and that objects know nothing of one another. */
public final class LifeTest {
  private static final int NONE = PastDraws.NONE;
  private static final int CALLS = 512;
  // So many calls told leaves none but those of a kind's last turn.
  private static final Told TOLD = new Told(12, 1, 2, 3, 4, 999);

  public static void main(String[] args) {
    lastCallIsAnswered();
    lastCallChanges();
    refusedCallsCount();
    eachObjectItsOwn();
    Check.finish();
  }

  // Each kind of call is the 512th of an object of its own, and the first of another one.
  private static void lastCallIsAnswered() {
    Check.sentence("An object is used for at most 512 calls after it has been made");
    for (int kind = 0; kind < 21; kind++) {
      long due = answer(new PastDraws(1), kind);
      Check.due("kind " + kind + " as the 512th call", answer(used(1, CALLS - 1), kind), due);
    }
  }

  private static PastDraws used(int states, int calls) {
    PastDraws draws = new PastDraws(states);
    for (int call = 0; call < calls; call++) {
      draws.hash(call, call);
    }
    return draws;
  }

  private static long answer(PastDraws draws, int kind) {
    switch (kind) {
      case 0: return draws.hash(3, 4);
      case 1: return draws.pick(3, 100);
      case 2: return draws.tries(3, 100);
      case 3: return draws.taken(3, 10, 0);
      case 4: return draws.past(3, 10);
      case 5: return draws.fold(3, 10);
      case 6: return draws.bounding(3, 10);
      case 7: return draws.monotone();
      case 8: return draws.counted(5, 0);
      case 9: return draws.trees(-1);
      case 10: return draws.once(3, 10, 99);
      case 11: return draws.words(25);
      case 12: return draws.word(25, 0, 0);
      case 13: return draws.rank(25, 0);
      case 14: return draws.permutations(8);
      case 15: return draws.permutation(8, 5000, 3);
      case 16: return draws.place(8, 1);
      case 17: return draws.cell(0, 0);
      case 18: return draws.tell(0);
      case 19: return draws.rule(0, 0, 0);
      default: return draws.lead(0, 0, 0);
    }
  }

  private static void lastCallChanges() {
    Check.sentence("An object is used for at most 512 calls: the 511th still changes what the 512th answers");
    PastDraws draws = used(2, CALLS - 2);
    Check.due("rule(0, 0, 1)", draws.rule(0, 0, 1), 0);
    Check.due("rule(0, 0, 0)", draws.rule(0, 0, 0), 1);
    draws = used(2, CALLS - 2);
    Check.due("lead(1, 3, 1)", draws.lead(1, 3, 1), NONE);
    Check.due("lead(1, 3, 0)", draws.lead(1, 3, 0), 1);
    draws = used(2, CALLS - 2);
    Check.due("end(0, true)", draws.end(0, true), 0);
    Check.due("words(0)", draws.words(0), 1);
    draws = used(2, CALLS - 2);
    Check.due("allow(0, 0, false)", draws.allow(0, 0, false), 1);
    Check.due("permutations(1)", draws.permutations(1), 0);
    draws = used(2, CALLS - 2);
    Check.due("things(16)", draws.things(16), 1);
    Check.due("weight(15, 7)", draws.weight(15, 7), 1);
    draws = used(2, CALLS - 2);
    Check.due("weight(0, 1000)", draws.weight(0, 1000), 1);
    Check.due("tell(999)", draws.tell(999), 0);
  }

  // 226 calls tell all, 60 are refused, 226 look all up again: the last is the 512th.
  private static void refusedCallsCount() {
    Check.sentence("An object is used for at most 512 calls, refused ones among them");
    PastDraws draws = TOLD.make();
    for (int call = 0; call < 60; call++) {
      Check.due("things(17)", draws.things(17), PastDraws.BAD);
    }
    TOLD.allThere("after 60 refused calls", draws);
  }

  private static void eachObjectItsOwn() {
    Check.sentence("Promise 1: A new object");
    PastDraws told = TOLD.make();
    PastDraws fresh = new PastDraws(12);
    Told.nothingThere("of an object made after another was told all", 12, fresh);
    TOLD.allThere("after another object was told other things", told);
    // The rows of one are not the rows of another, when calls on both take turns.
    PastDraws full = new PastDraws(1);
    PastDraws empty = new PastDraws(1);
    for (int letter = 0; letter < 4; letter++) {
      full.lead(0, letter, 0);
    }
    full.end(0, true);
    empty.allow(0, 0, false);
    empty.weight(0, 0);
    for (int turn = 0; turn < 3; turn++) {
      Check.due("words(25) of all", full.words(25), 1L << 50);
      Check.due("words(25) of none", empty.words(25), 0);
      Check.due("permutations(8) of all", full.permutations(8), 40320);
      Check.due("permutations(8) without one", empty.permutations(8), 35280);
      Check.due("cell(0, 0) of 1", full.cell(0, 0), 1);
      Check.due("cell(0, 0) of 0", empty.cell(0, 0), NONE);
    }
  }
}
