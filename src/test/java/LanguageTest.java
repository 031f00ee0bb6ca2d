import java.io.IOException;
import java.lang.reflect.Constructor;
import java.lang.reflect.Field;
import java.lang.reflect.Method;
import java.lang.reflect.Modifier;
import java.nio.file.Files;
import java.nio.file.Path;
import java.util.ArrayList;
import java.util.Arrays;
import java.util.List;
import java.util.Set;
import java.util.TreeSet;

/** Those rules of LANGUAGE.md that can be seen by reflection or by the words of the source. */
public final class LanguageTest {
  private static final Path SOURCE = Path.of("src/main/java/QuayClock.java");
  private static final Set<String> FACE = new TreeSet<>(List.of("feed", "back", "read", "place", "lot",
      "buyer", "want", "lorry", "sale", "day", "told", "limit", "rule", "bought", "last", "gets", "sum",
      "without", "load", "stays", "count"));

  public static void main(String[] args) throws IOException {
    face();
    List<Class<?>> classes = new ArrayList<>(Arrays.asList(QuayClock.class.getDeclaredClasses()));
    Check.due("classes at most 12", classes.size() + 1 <= 12, true);
    classes.add(QuayClock.class);
    for (Class<?> c : classes) {
      fields(c);
      methods(c);
    }
    String code = codeOf(Files.readString(SOURCE));
    words(code);
    lengths(code);
    Check.end();
  }

  private static void face() {
    Set<String> open = new TreeSet<>();
    for (Method m : QuayClock.class.getDeclaredMethods()) {
      if (!Modifier.isPrivate(m.getModifiers())) {
        Check.due(m + " is public", Modifier.isPublic(m.getModifiers()), true);
        open.add(m.getName());
      }
    }
    Check.due("open methods " + open, open.equals(FACE), true);
    Constructor<?>[] made = QuayClock.class.getDeclaredConstructors();
    Check.due("constructors", made.length, 1);
    Check.due("constructor is public", Modifier.isPublic(made[0].getModifiers()), true);
    for (Field f : QuayClock.class.getDeclaredFields()) {
      boolean open2 = f.getName().equals("NONE");
      Check.due(f + " is open", !Modifier.isPrivate(f.getModifiers()), open2);
    }
    Check.due("the class is final", Modifier.isFinal(QuayClock.class.getModifiers()), true);
  }

  private static void fields(Class<?> c) {
    int own = 0;
    for (Field f : c.getDeclaredFields()) {
      if (Modifier.isStatic(f.getModifiers())) {
        boolean plain = f.getType().isPrimitive() || f.getType() == String.class;
        Check.due(f + " is a constant", Modifier.isFinal(f.getModifiers()) && plain, true);
      } else {
        own++;
      }
    }
    Check.due("fields of " + c + " at most 20", own <= 20, true);
    boolean nested = c != QuayClock.class;
    Check.due(c + " is static", !nested || Modifier.isStatic(c.getModifiers()), true);
  }

  private static void methods(Class<?> c) {
    for (Method m : c.getDeclaredMethods()) {
      Check.due(m + " has seven parameters at most", m.getParameterCount() <= 7, true);
      boolean hides = Modifier.isPrivate(m.getModifiers()) && FACE.contains(m.getName());
      Check.due(m + " bears a name of the face", hides, false);
      Check.due(m + " is synthetic", m.isSynthetic(), false);
    }
  }

  /** The source without comments, texts and characters, line by line as it was. */
  private static String codeOf(String source) {
    String bare = source.replaceAll("\"(\\\\.|[^\"\\\\])*\"", "\"\"");
    bare = bare.replaceAll("'(\\\\.|[^'\\\\])'", "' '");
    bare = bare.replaceAll("//[^\n]*", "");
    StringBuilder out = new StringBuilder();
    boolean inside = false;
    for (int i = 0; i < bare.length(); i++) {
      if (bare.startsWith("/*", i)) {
        inside = true;
      }
      char c = bare.charAt(i);
      out.append(inside && c != '\n' ? ' ' : c);
      if (inside && i > 0 && bare.startsWith("*/", i - 1)) {
        inside = false;
      }
    }
    return out.toString();
  }

  private static void words(String code) {
    String[] banned = {"throw", "throws", "try", "catch", "synchronized", "assert", "import", "package",
        "record", "System", "double", "float", "Object", "native", "volatile"};
    Set<String> words = new TreeSet<>(Arrays.asList(code.split("[^A-Za-z0-9_]+")));
    for (String word : banned) {
      Check.due("'" + word + "' stands in the source", words.contains(word), false);
    }
    Check.due("a lambda stands in the source", code.contains("->"), false);
    Check.due("a method reference stands in the source", code.contains("::"), false);
  }

  /** No method is longer than sixty lines: seen by the indent of its first and last line. */
  private static void lengths(String code) {
    String[] lines = code.split("\n");
    for (String indent : new String[] {"  ", "    "}) {
      int from = -1;
      for (int i = 0; i < lines.length; i++) {
        if (lines[i].startsWith(indent + "}") && from >= 0) {
          Check.due("lines of the method at line " + (from + 1) + " at most 60", i - from < 60, true);
          from = -1;
        } else if (lines[i].matches(indent + "\\S.*\\) \\{")) {
          from = i;
        }
      }
    }
  }
}
