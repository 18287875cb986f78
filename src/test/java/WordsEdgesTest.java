/** THE MACHINE, WORDS and promises 14 to 18: each sentence that names a boundary, with a test of its own. */
public final class WordsEdgesTest {
  private static final int BAD = PastDraws.BAD;
  private static final int NONE = PastDraws.NONE;
  private static final int LEAST = Integer.MIN_VALUE;
  private static final int MOST = Integer.MAX_VALUE;

  public static void main(String[] args) {
    nowhereAtFirst();
    noEndAtFirst();
    sameStates();
    toWhichItDid();
    leadLimits();
    endTwice();
    endLimits();
    fromStateNought();
    inOrder();
    overStates();
    noLetters();
    wordsLimits();
    mostWords();
    suchWordAndLetter();
    wordLimits();
    lowestBitsFirst();
    notTaken();
    rankLimits();
    Check.finish();
  }

  private static void nowhereAtFirst() {
    Check.sentence("letters 0 .. 3 lead from a STATE to one, or nowhere (at first)");
    for (int n = 1; n <= 12; n++) {
      PastDraws draws = new PastDraws(n);
      for (int state = 0; state < n; state++) {
        draws.end(state, true);
      }
      Check.due("words(0), all are ends", draws.words(0), 1);
      Check.due("words(1), all are ends", draws.words(1), 0);
      Check.due("words(25), all are ends", draws.words(25), 0);
      Check.due("rank(1, 0)", draws.rank(1, 0), NONE);
      for (int state = 0; state < n; state++) {
        for (int letter = 0; letter < 4; letter++) {
          Check.due("lead(" + state + ", " + letter + ", 0)", draws.lead(state, letter, 0), NONE);
        }
      }
    }
  }

  private static void noEndAtFirst() {
    Check.sentence("a STATE is an END or not (at first)");
    for (int n = 1; n <= 12; n++) {
      PastDraws draws = new PastDraws(n);
      for (int letter = 0; letter < 4; letter++) {
        draws.lead(0, letter, n - 1);
      }
      Check.due("words(0)", draws.words(0), 0);
      Check.due("words(1)", draws.words(1), 0);
      Check.due("rank(0, 0)", draws.rank(0, 0), NONE);
      Check.due("rank(1, 3)", draws.rank(1, 3), NONE);
      for (int state = 0; state < n; state++) {
        Check.due("end(" + state + ", false)", draws.end(state, false), 0);
      }
    }
  }

  private static void sameStates() {
    Check.sentence("THE MACHINE has the same STATES: but what a letter does is no rule of a SIGN");
    PastDraws draws = new PastDraws(2);
    Check.due("rule(0, 1, 1)", draws.rule(0, 1, 1), 0);
    Check.due("lead(0, 1, 0)", draws.lead(0, 1, 0), NONE);
    Check.due("rule(0, 1, 0)", draws.rule(0, 1, 0), 1);
    Check.due("lead(0, 1, 1)", draws.lead(0, 1, 1), 0);
  }

  private static void toWhichItDid() {
    Check.sentence("Promise 14: A letter leads from a STATE to one, nowhere (NONE): to which it did (NONE)");
    PastDraws draws = new PastDraws(12);
    draws.end(11, true);
    Check.due("lead(0, 3, 11)", draws.lead(0, 3, 11), NONE);
    Check.due("words(1)", draws.words(1), 1);
    Check.due("lead(0, 3, 11) again", draws.lead(0, 3, 11), 11);
    Check.due("words(1) still", draws.words(1), 1);
    Check.due("lead(0, 3, NONE)", draws.lead(0, 3, NONE), 11);
    Check.due("words(1), nowhere", draws.words(1), 0);
    Check.due("lead(0, 3, NONE) again", draws.lead(0, 3, NONE), NONE);
    Check.due("lead(0, 3, 0)", draws.lead(0, 3, 0), NONE);
    Check.due("lead(0, 3, 11), from 0", draws.lead(0, 3, 11), 0);
    Check.due("lead(11, 0, 0)", draws.lead(11, 0, 0), NONE);
    Check.due("lead(0, 0, 5), another letter", draws.lead(0, 0, 5), NONE);
    Check.due("words(1), by letter 3", draws.words(1), 1);
  }

  private static void leadLimits() {
    Check.sentence("Promise 14: BAD");
    for (int n = 1; n <= 12; n++) {
      PastDraws draws = new PastDraws(n);
      int[] wrongStates = {-1, -2, n, n + 1, LEAST, MOST};
      for (int wrong : wrongStates) {
        Check.due("lead(" + wrong + ", 0, 0) of " + n, draws.lead(wrong, 0, 0), BAD);
        Check.due("lead(" + wrong + ", 0, NONE) of " + n, draws.lead(wrong, 0, NONE), BAD);
      }
      int[] wrongLetters = {-1, -2, 4, 5, 7, LEAST, MOST};
      for (int wrong : wrongLetters) {
        Check.due("lead(0, " + wrong + ", 0) of " + n, draws.lead(0, wrong, 0), BAD);
        Check.due("lead(0, " + wrong + ", NONE) of " + n, draws.lead(0, wrong, NONE), BAD);
      }
      // BAD itself is no state to lead to, nor nowhere.
      int[] wrongAims = {BAD, -3, n, n + 1, LEAST, MOST};
      for (int wrong : wrongAims) {
        Check.due("lead(0, 0, " + wrong + ") of " + n, draws.lead(0, 0, wrong), BAD);
      }
      Check.due("lead(0, 0, 0), still nowhere", draws.lead(0, 0, 0), NONE);
      Check.due("lead(n - 1, 3, n - 1)", draws.lead(n - 1, 3, n - 1), NONE);
      Check.due("lead(n - 1, 3, NONE)", draws.lead(n - 1, 3, NONE), n - 1);
    }
  }

  private static void endTwice() {
    Check.sentence("Promise 15: A STATE is an END, or not: which it was (1, 0)");
    PastDraws draws = new PastDraws(12);
    for (int state = 0; state < 12; state += 11) {
      Check.due("end(" + state + ", true)", draws.end(state, true), 0);
      Check.due("end(" + state + ", true) again", draws.end(state, true), 1);
      Check.due("end(" + state + ", false)", draws.end(state, false), 1);
      Check.due("end(" + state + ", false) again", draws.end(state, false), 0);
      Check.due("end(5, false), another state", draws.end(5, false), 0);
    }
  }

  private static void endLimits() {
    Check.sentence("Promise 15: BAD");
    for (int n = 1; n <= 12; n++) {
      PastDraws draws = new PastDraws(n);
      int[] wrongStates = {-1, -2, n, n + 1, LEAST, MOST};
      for (int wrong : wrongStates) {
        Check.due("end(" + wrong + ", true) of " + n, draws.end(wrong, true), BAD);
        Check.due("end(" + wrong + ", false) of " + n, draws.end(wrong, false), BAD);
      }
    }
  }

  private static void fromStateNought() {
    Check.sentence("A WORD of a length is taken, if its letters lead from STATE 0 to an END");
    PastDraws draws = new PastDraws(3);
    draws.lead(0, 2, 1);
    draws.lead(1, 2, 2);
    draws.end(2, true);
    Check.due("words(0), 0 is no end", draws.words(0), 0);
    Check.due("words(1), 1 is no end", draws.words(1), 0);
    Check.due("words(2)", draws.words(2), 1);
    Check.due("words(3), nowhere behind 2", draws.words(3), 0);
    Check.due("rank(2, 2 2)", draws.rank(2, 2 | 2 << 2), 0);
    // An end on the way is no end of the word, and does not stop it.
    draws.end(1, true);
    Check.due("words(1), 1 is an end", draws.words(1), 1);
    Check.due("words(2), 1 is an end", draws.words(2), 1);
  }

  private static void inOrder() {
    Check.sentence("WORDS of one length are numbered 0, 1, .. in order (the first letter where two differ)");
    PastDraws draws = allWords();
    // 0 3 is ahead of 1 0: the first letter tells, not the last.
    Check.due("rank(2, 0 3)", draws.rank(2, 3 << 2), 3);
    Check.due("rank(2, 1 0)", draws.rank(2, 1), 4);
    Check.due("rank(2, 3 3)", draws.rank(2, 15), 15);
    Check.due("word(2, 3, 0)", draws.word(2, 3, 0), 0);
    Check.due("word(2, 3, 1)", draws.word(2, 3, 1), 3);
    Check.due("word(2, 4, 0)", draws.word(2, 4, 0), 1);
    Check.due("word(2, 4, 1)", draws.word(2, 4, 1), 0);
    Check.due("word(2, 15, 1)", draws.word(2, 15, 1), 3);
    // Only words that are taken have numbers.
    draws.lead(0, 1, NONE);
    Check.due("rank(2, 2 0), without 1", draws.rank(2, 2), 3);
    Check.due("word(2, 3, 0), without 1", draws.word(2, 3, 0), 2);
    Check.due("rank(2, 3 3), without 1", draws.rank(2, 15), 8);
  }

  // 0 goes by 1 and 3 to state 1, that by 0 and 2 back; the words of three letters to state 1 in order are
  // 1 0 1, 1 0 3, 1 2 1, 1 2 3, 3 0 1, 3 0 3, 3 2 1, 3 2 3.
  private static void overStates() {
    Check.sentence("WORDS of one length are numbered 0, 1, .. in order: each letter from the STATE where the last led");
    PastDraws draws = new PastDraws(2);
    draws.lead(0, 1, 1);
    draws.lead(0, 3, 1);
    draws.lead(1, 0, 0);
    draws.lead(1, 2, 0);
    draws.end(1, true);
    Check.due("words(3)", draws.words(3), 8);
    Check.due("words(2)", draws.words(2), 0);
    for (int number = 0; number < 8; number++) {
      int first = number < 4 ? 1 : 3;
      int second = number % 4 < 2 ? 0 : 2;
      int third = number % 2 == 0 ? 1 : 3;
      Check.due("word(3, " + number + ", 0)", draws.word(3, number, 0), first);
      Check.due("word(3, " + number + ", 1)", draws.word(3, number, 1), second);
      Check.due("word(3, " + number + ", 2)", draws.word(3, number, 2), third);
      Check.due("rank of word " + number, draws.rank(3, first | second << 2 | third << 4), number);
    }
    Check.due("word(3, 8, 0)", draws.word(3, 8, 0), BAD);
  }

  private static PastDraws allWords() {
    PastDraws draws = new PastDraws(1);
    for (int letter = 0; letter < 4; letter++) {
      draws.lead(0, letter, 0);
    }
    draws.end(0, true);
    return draws;
  }

  private static void noLetters() {
    Check.sentence("Promise 16: a length (0 ..): the WORD of no letters");
    PastDraws draws = new PastDraws(2);
    Check.due("words(0), 0 is no end", draws.words(0), 0);
    Check.due("rank(0, 0), 0 is no end", draws.rank(0, 0), NONE);
    Check.due("word(0, 0, 0), no word", draws.word(0, 0, 0), BAD);
    draws.end(1, true);
    Check.due("words(0), 1 is an end", draws.words(0), 0);
    draws.end(0, true);
    Check.due("words(0), 0 is an end", draws.words(0), 1);
    Check.due("rank(0, 0), 0 is an end", draws.rank(0, 0), 0);
    Check.due("rank(0, -1), no letter is read", draws.rank(0, -1), 0);
    Check.due("word(0, 0, 0), no letter", draws.word(0, 0, 0), BAD);
    Check.due("word(0, 0, -1)", draws.word(0, 0, -1), BAD);
    Check.due("word(0, 1, 0)", draws.word(0, 1, 0), BAD);
  }

  private static void wordsLimits() {
    Check.sentence("Promise 16: How many WORDS of a length (0 .. 25) there are. BAD");
    PastDraws full = allWords();
    PastDraws empty = new PastDraws(12);
    int[] wrongLengths = {-1, -2, LEAST, 26, 27, 31, 32, MOST};
    for (int length : wrongLengths) {
      Check.due("words(" + length + ")", full.words(length), BAD);
      Check.due("words(" + length + ") of no words", empty.words(length), BAD);
    }
    for (int length = 0; length <= 25; length++) {
      Check.due("words(" + length + ")", full.words(length), 1L << 2 * length);
      Check.due("words(" + length + ") of no words", empty.words(length), 0);
    }
  }

  private static void mostWords() {
    Check.sentence("Promise 16: (0 .. 25): 4 to the 25th of them");
    PastDraws draws = allWords();
    long all = 1L << 50;
    Check.due("words(25)", draws.words(25), all);
    Check.due("word(25, all - 1, 0)", draws.word(25, all - 1, 0), 3);
    Check.due("word(25, all - 1, 24)", draws.word(25, all - 1, 24), 3);
    Check.due("word(25, all, 0)", draws.word(25, all, 0), BAD);
    Check.due("word(25, 2^48, 0)", draws.word(25, 1L << 48, 0), 1);
    Check.due("word(25, 2^48 - 1, 0)", draws.word(25, (1L << 48) - 1, 0), 0);
    Check.due("word(25, 2^48 - 1, 1)", draws.word(25, (1L << 48) - 1, 1), 3);
    // Letter 8 is the first that a number of 2^32 is seen in.
    Check.due("word(25, 2^32, 8)", draws.word(25, 1L << 32, 8), 1);
    Check.due("word(25, 2^32, 24)", draws.word(25, 1L << 32, 24), 0);
    Check.due("word(25, 2^31, 9)", draws.word(25, 1L << 31, 9), 2);
    Check.due("rank(25, all 3)", draws.rank(25, all - 1), all - 1);
    Check.due("rank(25, last letter 1)", draws.rank(25, 1L << 48), 1);
    Check.due("rank(25, first letter 1)", draws.rank(25, 1), 1L << 48);
  }

  private static void suchWordAndLetter() {
    Check.sentence("Promise 17: BAD: also no such WORD, letter");
    PastDraws draws = allWords();
    for (int length = 1; length <= 25; length += 8) {
      long all = 1L << 2 * length;
      long[] wrongNumbers = {-1, -2, Long.MIN_VALUE, Integer.MIN_VALUE, all, all + 1, Long.MAX_VALUE, 1L << 62};
      for (long number : wrongNumbers) {
        Check.due("word(" + length + ", " + number + ", 0)", draws.word(length, number, 0), BAD);
      }
      int[] wrongLetters = {-1, -2, length, length + 1, 26, LEAST, MOST};
      for (int i : wrongLetters) {
        Check.due("word(" + length + ", 0, " + i + ")", draws.word(length, 0, i), BAD);
        Check.due("word(" + length + ", all, " + i + ")", draws.word(length, all, i), BAD);
      }
      Check.due("word(" + length + ", all - 1, last)", draws.word(length, all - 1, length - 1), 3);
      Check.due("word(" + length + ", 0, last)", draws.word(length, 0, length - 1), 0);
    }
    // A number is a long: cut to an int these two would be 0.
    Check.due("word(3, 2^32, 0)", draws.word(3, 1L << 32, 0), BAD);
    Check.due("word(3, -2^32, 0)", draws.word(3, -1L << 32, 0), BAD);
    PastDraws empty = new PastDraws(4);
    Check.due("word(3, 0, 0) of no words", empty.word(3, 0, 0), BAD);
    PastDraws one = new PastDraws(2);
    one.lead(0, 3, 1);
    one.end(1, true);
    Check.due("word(1, 0, 0) of one word", one.word(1, 0, 0), 3);
    Check.due("word(1, 1, 0) of one word", one.word(1, 1, 0), BAD);
    Check.due("word(2, 0, 0), none so long", one.word(2, 0, 0), BAD);
  }

  private static void wordLimits() {
    Check.sentence("Promise 17: of a length (0 .. 25). BAD");
    PastDraws draws = allWords();
    int[] wrongLengths = {-1, -2, LEAST, 26, 27, 32, MOST};
    for (int length : wrongLengths) {
      Check.due("word(" + length + ", 0, 0)", draws.word(length, 0, 0), BAD);
      Check.due("word(" + length + ", 0, -1)", draws.word(length, 0, -1), BAD);
      Check.due("word(" + length + ", 0, 25)", draws.word(length, 0, 25), BAD);
    }
    Check.due("word(25, 0, 24)", draws.word(25, 0, 24), 0);
    Check.due("word(25, 0, 25)", draws.word(25, 0, 25), BAD);
    Check.due("word(1, 0, 0)", draws.word(1, 0, 0), 0);
  }

  private static void lowestBitsFirst() {
    Check.sentence("Promise 18: whose letters are the lowest two bits of w, the next two, ..");
    PastDraws draws = allWords();
    Check.due("rank(3, 0 1 2)", draws.rank(3, 0 | 1 << 2 | 2 << 4), 6);
    Check.due("rank(3, 2 1 0)", draws.rank(3, 2 | 1 << 2), 36);
    Check.due("rank(1, 3)", draws.rank(1, 3), 3);
    // Bits above the letters are none of theirs.
    Check.due("rank(1, 3 and all bits above)", draws.rank(1, -1), 3);
    Check.due("rank(1, 0 and all bits above)", draws.rank(1, -4), 0);
    Check.due("rank(25, 0 and all bits above)", draws.rank(25, -1L << 50), 0);
    Check.due("rank(25, least)", draws.rank(25, Long.MIN_VALUE), 0);
    Check.due("rank(25, most)", draws.rank(25, Long.MAX_VALUE), (1L << 50) - 1);
    for (int i = 0; i < 25; i++) {
      Check.due("rank(25, letter " + i + " is 3)", draws.rank(25, 3L << 2 * i), 3L << 2 * (24 - i));
    }
  }

  private static void notTaken() {
    Check.sentence("Promise 18: NONE: it is not taken");
    PastDraws draws = new PastDraws(3);
    draws.lead(0, 0, 1);
    draws.lead(1, 0, 2);
    draws.lead(2, 0, 0);
    draws.end(2, true);
    Check.due("rank(2, 0 0)", draws.rank(2, 0), 0);
    Check.due("rank(2, 1 0), the first letter leads nowhere", draws.rank(2, 1), NONE);
    Check.due("rank(2, 0 1), the last letter leads nowhere", draws.rank(2, 4), NONE);
    Check.due("rank(1, 0), to no end", draws.rank(1, 0), NONE);
    Check.due("rank(3, 0 0 0), to no end", draws.rank(3, 0), NONE);
    Check.due("rank(0, 0), to no end", draws.rank(0, 0), NONE);
    Check.due("rank(5, 0 0 0 0 0)", draws.rank(5, 0), 0);
    draws.end(2, false);
    Check.due("rank(2, 0 0), the end is none", draws.rank(2, 0), NONE);
  }

  private static void rankLimits() {
    Check.sentence("Promise 18: BAD; NONE: BAD first");
    PastDraws full = allWords();
    PastDraws empty = new PastDraws(12);
    int[] wrongLengths = {-1, -2, LEAST, 26, 27, 32, MOST};
    long[] any = {0, 1, -1, Long.MIN_VALUE, Long.MAX_VALUE};
    for (long w : any) {
      for (int length : wrongLengths) {
        Check.due("rank(" + length + ", " + w + ")", full.rank(length, w), BAD);
        Check.due("rank(" + length + ", " + w + ") of no words", empty.rank(length, w), BAD);
      }
      Check.due("rank(0, " + w + ")", full.rank(0, w), 0);
      Check.due("rank(0, " + w + ") of no words", empty.rank(0, w), NONE);
      Check.due("rank(25, " + w + ") of no words", empty.rank(25, w), NONE);
    }
  }
}
