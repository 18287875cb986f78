import java.util.ArrayList;
import java.util.List;
import java.util.Random;

/** Promises 14 to 18: the machine and its words, against all words of a length tried in order. */
public final class WordsTest {
  private static final int BAD = PastDraws.BAD;
  private static final int NONE = PastDraws.NONE;

  private final Renewed draws;
  private final int n;
  private final int[][] leads;
  private final boolean[] ends;

  private WordsTest(int states) {
    draws = new Renewed(states);
    n = states;
    leads = new int[n][4];
    for (int[] lead : leads) {
      java.util.Arrays.fill(lead, NONE);
    }
    ends = new boolean[n];
  }

  public static void main(String[] args) {
    for (int states = 1; states <= 12; states++) {
      for (int kind = 0; kind < 3; kind++) {
        WordsTest test = new WordsTest(states);
        test.allLengths();
        Random random = new Random(7 * states + kind);
        for (int turn = 0; turn < 3; turn++) {
          test.setMachine(random, kind);
          test.wrongNumbers();
          test.allLengths();
          test.thereAndBack(random);
        }
      }
    }
    allWords();
    chainIsAnother();
    Check.finish();
  }

  private void setMachine(Random random, int kind) {
    for (int state = 0; state < n; state++) {
      for (int letter = 0; letter < 4; letter++) {
        int to = kind > 0 && random.nextInt(1 + kind) == 0 ? NONE : random.nextInt(n);
        Check.due("lead(" + state + ", " + letter + ", " + to + ")", draws.lead(state, letter, to), leads[state][letter]);
        leads[state][letter] = to;
      }
      boolean is = random.nextBoolean();
      Check.due("end(" + state + ", " + is + ")", draws.end(state, is), ends[state] ? 1 : 0);
      ends[state] = is;
    }
  }

  // w has the first letter in its lowest bits, while order has it in its highest.
  private static long turned(int order, int length) {
    long w = 0;
    for (int i = 0; i < length; i++) {
      w |= (long) (order >> 2 * (length - 1 - i) & 3) << 2 * i;
    }
    return w;
  }

  private boolean isTaken(long w, int length) {
    int state = 0;
    for (int i = 0; i < length && state != NONE; i++) {
      state = leads[state][(int) (w >> 2 * i & 3)];
    }
    return state != NONE && ends[state];
  }

  private void allLengths() {
    for (int length = 0; length <= 4; length++) {
      List<Long> words = new ArrayList<>();
      for (int order = 0; order < 1 << 2 * length; order++) {
        long w = turned(order, length);
        boolean is = isTaken(w, length);
        Check.due("rank(" + length + ", " + w + ")", draws.rank(length, w), is ? words.size() : NONE);
        Check.due("rank of " + w + " with bits above", draws.rank(length, w | -1L << 2 * length), is ? words.size() : NONE);
        if (is) {
          words.add(w);
        }
      }
      Check.due("words(" + length + ")", draws.words(length), words.size());
      for (int number = 0; number < words.size(); number++) {
        for (int i = 0; i < length; i++) {
          Check.due("word(" + length + ", " + number + ", " + i + ")", draws.word(length, number, i),
              words.get(number) >> 2 * i & 3);
        }
      }
      Check.due("word behind the last", draws.word(length, words.size(), 0), BAD);
      Check.due("a letter behind the last", draws.word(length, 0, length), BAD);
    }
  }

  private void thereAndBack(Random random) {
    int[] lengths = {9, 24, 25};
    for (int length : lengths) {
      long count = draws.words(length);
      for (int turn = 0; turn < 4 && count > 0; turn++) {
        long number = turn == 0 ? 0 : turn == 1 ? count - 1 : Math.floorMod(random.nextLong(), count);
        long w = 0;
        for (int i = 0; i < length; i++) {
          w |= (long) draws.word(length, number, i) << 2 * i;
        }
        Check.holds("the word is taken", isTaken(w, length));
        Check.due("rank of word " + number + " of " + length, draws.rank(length, w), number);
      }
      Check.due("word(" + length + ", all, 0)", draws.word(length, count, 0), BAD);
    }
  }

  private void wrongNumbers() {
    int[][] wrongLeads = {{-1, 0, 0}, {n, 0, 0}, {0, -1, 0}, {0, 4, 0}, {0, 0, n}, {0, 0, -1}, {0, 0, -3},
        {Integer.MAX_VALUE, 0, 0}, {0, Integer.MIN_VALUE, 0}, {0, 0, Integer.MIN_VALUE}, {n, 0, NONE}, {0, 4, NONE}};
    for (int[] wrong : wrongLeads) {
      Check.due("lead of a wrong number", draws.lead(wrong[0], wrong[1], wrong[2]), BAD);
    }
    int[] wrongStates = {-1, -2, n, Integer.MIN_VALUE, Integer.MAX_VALUE};
    for (int wrong : wrongStates) {
      Check.due("end(" + wrong + ", true)", draws.end(wrong, true), BAD);
      Check.due("end(" + wrong + ", false)", draws.end(wrong, false), BAD);
    }
    int[] wrongLengths = {-1, 26, 27, Integer.MIN_VALUE, Integer.MAX_VALUE};
    for (int wrong : wrongLengths) {
      Check.due("words(" + wrong + ")", draws.words(wrong), BAD);
      Check.due("word(" + wrong + ", 0, 0)", draws.word(wrong, 0, 0), BAD);
      Check.due("rank(" + wrong + ", 0)", draws.rank(wrong, 0), BAD);
    }
    long[] wrongWords = {-1, Long.MIN_VALUE, Long.MAX_VALUE, 1L << 32, 1L << 50};
    for (long wrong : wrongWords) {
      Check.due("word(3, " + wrong + ", 0)", draws.word(3, wrong, 0), BAD);
    }
    int[] wrongLetters = {-1, 3, Integer.MIN_VALUE, Integer.MAX_VALUE};
    for (int wrong : wrongLetters) {
      Check.due("word(3, 0, " + wrong + ")", draws.word(3, 0, wrong), BAD);
    }
  }

  private static void allWords() {
    WordsTest test = new WordsTest(1);
    for (int letter = 0; letter < 4; letter++) {
      test.draws.lead(0, letter, 0);
    }
    test.draws.end(0, true);
    Check.due("words(25) of all", test.draws.words(25), 1L << 50);
    Check.due("word of the last", test.draws.word(25, (1L << 50) - 1, 24), 3);
    Check.due("word behind it", test.draws.word(25, 1L << 50, 24), BAD);
    Check.due("rank of the last", test.draws.rank(25, (1L << 50) - 1), (1L << 50) - 1);
    Check.due("rank of the last with all bits", test.draws.rank(25, -1), (1L << 50) - 1);
    Check.due("rank, last letter 2", test.draws.rank(25, 2L << 48), 2);
    Check.due("rank, first letter 2", test.draws.rank(25, 2), 2L << 48);
    Check.due("words(0)", test.draws.words(0), 1);
    Check.due("word(0, 0, 0)", test.draws.word(0, 0, 0), BAD);
    Check.due("rank(0, 77)", test.draws.rank(0, 77), 0);
  }

  private static void chainIsAnother() {
    PastDraws draws = new PastDraws(2);
    draws.rule(0, 0, 1);
    Check.due("lead after rule", draws.lead(0, 0, 0), NONE);
    Check.due("rule after lead", draws.rule(0, 0, 0), 1);
  }
}
