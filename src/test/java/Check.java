/** Counts the answers that are not the ones that are due; every test of the project uses it. */
final class Check {
  private static int calls = 0;
  private static int wrong = 0;
  private static String sentence = "";

  private Check() {
  }

  /** The document's sentence that the answers from here on are about; it is told with each wrong one. */
  static void sentence(String words) {
    sentence = "[" + words + "] ";
  }

  static void due(String call, long got, long want) {
    calls++;
    if (got != want) {
      wrong++;
      System.out.println(sentence + call + " answered " + got + ", due is " + want);
    }
  }

  static void holds(String what, boolean is) {
    due(what, is ? 1 : 0, 1);
  }

  static void finish() {
    System.out.println(calls + " answers looked at, " + wrong + " not as due");
    if (wrong != 0 || calls == 0) {
      System.exit(1);
    }
  }
}
