import java.io.IOException;
import java.nio.file.Files;
import java.nio.file.Path;
import java.util.regex.Matcher;
import java.util.regex.Pattern;

/** Words and signs that LANGUAGE.md keeps out of the program; .ci/run starts it in the project's folder. */
public final class LanguageTest {
  private static final String[] RULED_OUT = {
    "\\b(throw|throws|try|catch|finally|synchronized|assert|package|volatile|native)\\b",
    "->", "::", "\\bvar\\b", "Exact\\b", "\\b(Thread|System\\.(?!arraycopy)\\w+|Random|Scanner|File)\\b",
    "\\b(HashMap|HashSet|Map|Set|Collections|Optional|Stream|BigInteger|Object)\\b",
  };

  public static void main(String[] args) throws IOException {
    String source = Files.readString(Path.of("src/main/java/PastDraws.java"));
    String code = source.replaceAll("(?s)/\\*.*?\\*/", "").replaceAll("//[^\n]*", "");
    for (String ruledOut : RULED_OUT) {
      Matcher found = Pattern.compile(ruledOut).matcher(code);
      Check.holds("no " + ruledOut, !found.find());
    }
    Matcher imported = Pattern.compile("(?m)^import ([^;]*);").matcher(code);
    while (imported.find()) {
      Check.holds("import " + imported.group(1), imported.group(1).matches("java\\.util\\.(Arrays|ArrayList|List|Iterator)"));
    }
    Check.finish();
  }
}
