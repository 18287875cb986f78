import java.io.File;
import java.io.IOException;
import java.net.URL;
import java.net.URLClassLoader;
import java.nio.file.Files;
import java.nio.file.Path;
import java.util.regex.Matcher;
import java.util.regex.Pattern;

/** The examples of README.md answer what their comments say; .ci/run starts it in the project's folder. */
public final class ReadmeTest {
  private static final Pattern EXAMPLE = Pattern.compile("(?s)```java\n(.*?)```");
  private static final Pattern ANSWER = Pattern.compile("(?m)^(?:int|long) (\\w+) = .*;\\s*// (-?\\d+): .*$");

  public static void main(String[] args) throws Exception {
    String readme = Files.readString(Path.of("README.md"));
    Matcher example = EXAMPLE.matcher(readme);
    int examples = 0;
    int answers = 0;
    StringBuilder methods = new StringBuilder();
    StringBuilder calls = new StringBuilder();
    while (example.find()) {
      Matcher answer = ANSWER.matcher(example.group(1));
      answers += (int) answer.results().count();
      String checked = answer.replaceAll("$0\nReadmeTest.due(\"$1\", $1, $2L);");
      methods.append("static void example").append(examples).append("() {\n").append(checked).append("}\n");
      calls.append("example").append(examples).append("();\n");
      examples++;
    }
    Check.due("examples", examples, 4);
    Check.due("answers told in the examples", answers, count(readme, "(?m); *// "));
    run("public class Examples {\n" + methods + "public static void all() {\n" + calls + "}\n}\n");
    testsAreTold(readme);
    Check.finish();
  }

  /** Public, for the examples have a loader of their own and do not see Check. */
  public static void due(String name, long got, long want) {
    Check.due("README: " + name, got, want);
  }

  private static int count(String text, String pattern) {
    return (int) Pattern.compile(pattern).matcher(text).results().count();
  }

  private static void run(String source) throws Exception {
    Path folder = Files.createTempDirectory("examples");
    try (URLClassLoader loader = new URLClassLoader(new URL[] {folder.toUri().toURL()})) {
      Path file = Files.writeString(folder.resolve("Examples.java"), source);
      String path = System.getProperty("java.class.path");
      int failed = new ProcessBuilder("javac", "--release", "17", "-cp", path, "-d", folder.toString(), file.toString())
          .inheritIO().start().waitFor();
      Check.due("the examples compile", failed, 0);
      if (failed == 0) {
        loader.loadClass("Examples").getMethod("all").invoke(null);
      }
    } finally {
      removeAll(folder);
    }
  }

  private static void removeAll(Path folder) throws IOException {
    for (File file : folder.toFile().listFiles()) {
      Files.delete(file.toPath());
    }
    Files.delete(folder);
  }

  private static void testsAreTold(String readme) {
    for (String file : Path.of("src/test/java").toFile().list()) {
      String name = "`" + file.replace(".java", "") + "`";
      Check.holds("README.md tells of " + name, readme.contains(name));
    }
  }
}
