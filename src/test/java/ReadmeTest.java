import java.io.ByteArrayOutputStream;
import java.io.IOException;
import java.io.PrintStream;
import java.lang.reflect.Method;
import java.lang.reflect.Modifier;
import java.net.URL;
import java.net.URLClassLoader;
import java.nio.file.DirectoryStream;
import java.nio.file.Files;
import java.nio.file.Path;
import java.util.ArrayList;
import java.util.List;
import java.util.regex.Matcher;
import java.util.regex.Pattern;
import javax.tools.ToolProvider;

/** What README.md shows and names: its program as it prints, every call, every test. */
public final class ReadmeTest {
  private static final Path README = Path.of("README.md");
  private static final Path TESTS = Path.of("src/test/java");
  private static final Pattern PROGRAM = Pattern.compile("```java\n(.*?)```", Pattern.DOTALL);
  private static final Pattern PRINT = Pattern.compile("System\\.out\\.println\\((.*)\\);(.*)");
  private static final Pattern TOLD = Pattern.compile("  // (-?\\d+)(:.*)?");

  public static void main(String[] args) throws IOException, ReflectiveOperationException {
    String readme = Files.readString(README);
    program(readme);
    calls(readme);
    tests(readme);
    Check.end();
  }

  private static void program(String readme) throws IOException, ReflectiveOperationException {
    Matcher block = PROGRAM.matcher(readme);
    Check.due("README.md shows a program", block.find(), true);
    String source = block.group(1);
    Check.due("README.md shows one more program", block.find(), false);
    String[] printed = outputOf(source).split("\\R");
    List<String> calls = new ArrayList<>();
    List<String> told = new ArrayList<>();
    Matcher print = PRINT.matcher(source);
    while (print.find()) {
      Matcher number = TOLD.matcher(print.group(2));
      Check.due("README.md tells what " + print.group(1) + " answers", number.matches(), true);
      calls.add(print.group(1));
      told.add(number.matches() ? number.group(1) : "");
    }
    Check.due("lines that the program prints", printed.length, told.size());
    Check.due("README.md prints some answers", told.size() > 20, true);
    for (int i = 0; i < told.size() && i < printed.length; i++) {
      String call = "'" + calls.get(i) + "' printed " + printed[i] + " as README.md says: " + told.get(i);
      Check.due(call, printed[i].equals(told.get(i)), true);
    }
  }

  private static String outputOf(String source) throws IOException, ReflectiveOperationException {
    Path dir = Files.createTempDirectory("readme");
    Path file = dir.resolve("Example.java");
    Path made = dir.resolve("Example.class");
    PrintStream usual = System.out;
    ByteArrayOutputStream kept = new ByteArrayOutputStream();
    try {
      Files.writeString(file, source);
      int code = ToolProvider.getSystemJavaCompiler().run(null, null, null, "-encoding", "UTF-8",
          "-cp", System.getProperty("java.class.path"), "-d", dir.toString(), file.toString());
      Check.due("javac Example.java", code, 0);
      if (code == 0) {
        System.setOut(new PrintStream(kept, true));
        run(dir);
      }
    } finally {
      System.setOut(usual);
      Files.deleteIfExists(made);
      Files.deleteIfExists(file);
      Files.deleteIfExists(dir);
    }
    return kept.toString();
  }

  private static void run(Path dir) throws IOException, ReflectiveOperationException {
    try (URLClassLoader loader = new URLClassLoader(new URL[] {dir.toUri().toURL()})) {
      Method main = loader.loadClass("Example").getMethod("main", String[].class);
      main.invoke(null, (Object) new String[0]);
    }
  }

  /** Once in the program or out of it is not enough: each is to stand in the table of calls. */
  private static void calls(String readme) {
    for (Method m : QuayClock.class.getDeclaredMethods()) {
      if (Modifier.isPublic(m.getModifiers())) {
        boolean named = readme.contains("`" + m.getName() + "`");
        Check.due("README.md names " + m.getName(), named, true);
      }
    }
  }

  private static void tests(String readme) throws IOException {
    Check.due("README.md gives the command of the tests", readme.contains("\n    .ci/run\n"), true);
    Check.due(".ci/run can be run", Files.isExecutable(Path.of(".ci/run")), true);
    try (DirectoryStream<Path> files = Files.newDirectoryStream(TESTS, "*Test.java")) {
      for (Path file : files) {
        String name = file.getFileName().toString().replace(".java", "");
        Check.due("README.md names " + name, readme.contains("`" + name + "`"), true);
      }
    }
  }
}
