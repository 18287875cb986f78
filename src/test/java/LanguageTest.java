import java.io.IOException;
import java.lang.reflect.Field;
import java.lang.reflect.Modifier;
import java.nio.file.Files;
import java.nio.file.Path;
import java.util.ArrayList;
import java.util.HashMap;
import java.util.List;
import java.util.Map;
import java.util.Set;
import java.util.TreeSet;
import java.util.regex.Matcher;
import java.util.regex.Pattern;

/** What LANGUAGE.md keeps out of the program, as far as it can be seen; .ci/run starts it in the project's folder. */
public final class LanguageTest {
  private static final String[] RULED_OUT = {
    "\\b(throw|throws|try|catch|finally|synchronized|assert|package|volatile|native)\\b",
    "->", "::", "\\bvar\\b", "Exact\\b", "\\b(Thread|System\\.(?!arraycopy)\\w+|Random|Scanner|File)\\b",
    "\\b(HashMap|HashSet|Map|Set|Collections|Optional|Stream|BigInteger|Object)\\b",
    "\\b(hashCode|equals|toString)\\(", "while \\(true\\)", "; *; *\\)", "\\bstatic \\{", "\\bnew \\w+\\([^)]*\\) \\{",
  };
  private static final Set<String> LIBRARY = Set.of("Math.max", "Math.min", "Math.abs", "Math.floorDiv", "Math.floorMod",
      "Integer.bitCount", "Long.bitCount", "Arrays.fill", "Arrays.copyOf", "Arrays.copyOfRange", "System.arraycopy");
  private static final Pattern HEADER =
      Pattern.compile("^( {4}| {8})((?:\\w+(?:\\[\\])* )*)(\\w+)\\(([^()]*)\\) \\{$");

  private record Routine(String name, boolean isConstructor, int parameters, List<String> lines) {
  }

  private final String source;
  private final String code;
  private final List<Routine> routines = new ArrayList<>();
  private final Map<String, Set<String>> called = new HashMap<>();

  private LanguageTest() throws IOException {
    source = Files.readString(Path.of("src/main/java/PastDraws.java"));
    code = source.replaceAll("(?s)/\\*.*?\\*/", "").replaceAll("//[^\n]*", "");
  }

  public static void main(String[] args) throws IOException {
    LanguageTest test = new LanguageTest();
    test.readRoutines();
    test.wordsRuledOut();
    test.libraryIsListed();
    test.routinesAreSmall();
    test.callsHaveAnEnd();
    test.objectsAreMadeByConstructors();
    fieldsAreAsTold();
    Check.finish();
  }

  private void readRoutines() {
    Routine open = null;
    String end = "";
    for (String line : code.split("\n")) {
      Matcher header = HEADER.matcher(line.stripTrailing());
      if (open == null && header.matches()) {
        boolean isConstructor = header.group(2).matches("|public ");
        int parameters = header.group(4).isEmpty() ? 0 : header.group(4).split(",").length;
        open = new Routine(header.group(3), isConstructor, parameters, new ArrayList<>());
        end = header.group(1) + "}";
      } else if (open != null && line.equals(end)) {
        routines.add(open);
        open = null;
      } else if (open != null) {
        open.lines.add(line);
      }
    }
    Check.holds("all is read: " + routines.size() + " methods and constructors", open == null && routines.size() >= 26);
  }

  private void wordsRuledOut() {
    Check.sentence("rules 1, 2, 4, 5, 6, 9, 13");
    for (String ruledOut : RULED_OUT) {
      Check.holds("no " + ruledOut, !Pattern.compile(ruledOut).matcher(code).find());
    }
    Check.sentence("rule 3");
    Check.holds("characters 0 to 255 alone", source.chars().allMatch(c -> c < 256));
  }

  private void libraryIsListed() {
    Check.sentence("rule 4");
    Matcher imported = Pattern.compile("(?m)^import ([^;]*);").matcher(code);
    while (imported.find()) {
      Check.holds("import " + imported.group(1), imported.group(1).matches("java\\.util\\.(Arrays|ArrayList|List|Iterator)"));
    }
    Matcher used = Pattern.compile("\\b[A-Z][a-z]\\w*\\.\\w+(?=\\()").matcher(code);
    while (used.find()) {
      Check.holds(used.group() + " is listed", LIBRARY.contains(used.group()));
    }
  }

  private void routinesAreSmall() {
    Check.sentence("rule 11");
    for (Routine routine : routines) {
      Check.holds(routine.name + " has at most seven parameters", routine.parameters <= 7);
      Check.holds(routine.name + " is short", routine.lines.size() <= 60);
    }
    Check.holds("at most twelve classes", 1 + PastDraws.class.getDeclaredClasses().length <= 12);
  }

  // Methods of one name in two classes are taken as one: what has an end so, has one apart too.
  private void callsHaveAnEnd() {
    Check.sentence("rules 8 and 11");
    for (Routine routine : routines) {
      called.put(routine.name, new TreeSet<>());
    }
    for (Routine routine : routines) {
      Matcher call = Pattern.compile("\\b(\\w+)\\(").matcher(String.join("\n", routine.lines));
      while (call.find()) {
        if (called.containsKey(call.group(1))) {
          called.get(routine.name).add(call.group(1));
        }
      }
    }
    for (Routine routine : routines) {
      Check.holds(routine.name + " calls at most eight deep", depth(routine.name, 0) <= 8);
    }
  }

  private int depth(String name, int above) {
    int deepest = above;
    if (above <= 8) {
      for (String next : called.get(name)) {
        deepest = Math.max(deepest, depth(next, above + 1));
      }
    }
    return deepest;
  }

  private void objectsAreMadeByConstructors() {
    Check.sentence("rule 12");
    for (Routine routine : routines) {
      boolean makes = String.join("\n", routine.lines).matches("(?s).*\\bnew\\b.*");
      Check.holds(routine.name + " makes objects only if it is a constructor", routine.isConstructor || !makes);
    }
  }

  private static void fieldsAreAsTold() {
    List<Class<?>> classes = new ArrayList<>(List.of(PastDraws.class.getDeclaredClasses()));
    classes.add(PastDraws.class);
    Set<Class<?>> own = new java.util.HashSet<>(classes);
    Set<Class<?>> arrays = Set.of(int[].class, long[].class, boolean[].class, int[][].class, long[][].class);
    for (Class<?> inside : classes) {
      int fields = 0;
      for (Field field : inside.getDeclaredFields()) {
        String name = inside.getSimpleName() + "." + field.getName();
        Class<?> type = field.getType();
        if (Modifier.isStatic(field.getModifiers())) {
          Check.sentence("rule 5");
          Check.holds(name + " is a constant number", Modifier.isFinal(field.getModifiers()) && type.isPrimitive());
        } else {
          Check.sentence("rule 3");
          Check.holds(name + " is of a type that is told", type.isPrimitive() || own.contains(type) || arrays.contains(type));
          fields++;
        }
      }
      Check.sentence("rule 11");
      Check.holds(inside.getSimpleName() + " has at most twenty fields", fields <= 20);
    }
  }
}
