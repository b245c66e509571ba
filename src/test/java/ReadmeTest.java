import java.lang.reflect.InvocationTargetException;
import java.lang.reflect.Method;
import java.lang.reflect.Modifier;
import java.net.URL;
import java.net.URLClassLoader;
import java.nio.charset.StandardCharsets;
import java.nio.file.Files;
import java.nio.file.Path;
import java.util.List;
import java.util.Set;
import java.util.TreeSet;
import java.util.function.BiConsumer;
import java.util.regex.Matcher;
import java.util.regex.Pattern;
import javax.tools.JavaCompiler;
import javax.tools.ToolProvider;

/** README.md's examples answer as they are printed there, and there is one for each call. */
public final class ReadmeTest {
  private static final Checks CHECKS = new Checks("ReadmeTest");
  private static final Pattern BLOCK = Pattern.compile("(?ms)^```java\n(.*?)^```$");
  /** A call and, behind it, what it answers and what that means. */
  private static final Pattern EXAMPLE =
      Pattern.compile("(home\\.(\\w+)\\(.*\\)|read\\(home, .*\\)); +// (-?\\d+|true|false)\\b.*");

  public static void main(String[] args) throws Exception {
    String page = Files.readString(Path.of("README.md"), StandardCharsets.UTF_8);
    Set<String> shown = new TreeSet<>();
    String source = program(page, shown);
    for (Method m : StoneHome.class.getDeclaredMethods()) {
      if (Modifier.isPublic(m.getModifiers())) {
        CHECKS.due("an example of " + m.getName(), shown.contains(m.getName()), true);
      }
    }
    answer(source, Files.createTempDirectory("readme"));
    CHECKS.end();
  }

  /** One method does all the examples from the first to the last; a block that begins with "static" stands beside it. */
  private static String program(String page, Set<String> shown) {
    StringBuilder beside = new StringBuilder();
    StringBuilder inside = new StringBuilder();
    Matcher block = BLOCK.matcher(page);
    while (block.find()) {
      if (block.group(1).startsWith("static ")) {
        beside.append(block.group(1));
      } else {
        block.group(1).lines().forEach(line -> inside.append(statement(line, shown)));
      }
    }
    return "public final class Examples {\n" + beside
        + "public static void answer(java.util.function.BiConsumer<String, Object[]> due) {\n" + inside + "}\n}\n";
  }

  private static String statement(String line, Set<String> shown) {
    Matcher example = EXAMPLE.matcher(line);
    if (!example.matches()) {
      CHECKS.due("no answer is printed for: " + line, line.startsWith("home."), false);
      return line + "\n";
    }
    if (example.group(2) != null) {
      shown.add(example.group(2));
    }
    String told = example.group(1).replace("\\", "\\\\").replace("\"", "\\\"");
    return "due.accept(\"" + told + "\", new Object[] {" + example.group(1) + ", " + example.group(3) + "});\n";
  }

  private static void answer(String source, Path folder) throws Exception {
    Path file = Files.writeString(folder.resolve("Examples.java"), source);
    for (Path made : List.of(folder, file, folder.resolve("Examples.class"))) {
      made.toFile().deleteOnExit();
    }
    JavaCompiler compiler = ToolProvider.getSystemJavaCompiler();
    String classes = System.getProperty("java.class.path");
    int wrong = compiler.run(null, null, null, "-cp", classes, "-d", folder.toString(), file.toString());
    CHECKS.due("the examples compile", wrong, 0);
    if (wrong == 0) {
      try (URLClassLoader loader = new URLClassLoader(new URL[] {folder.toUri().toURL()}, StoneHome.class.getClassLoader())) {
        call(loader.loadClass("Examples").getMethod("answer", BiConsumer.class));
      }
    }
  }

  private static void call(Method answer) throws IllegalAccessException, InvocationTargetException {
    BiConsumer<String, Object[]> due = (what, both) -> {
      CHECKS.due(what + " is printed as what it is", both[0].getClass() == both[1].getClass(), true);
      CHECKS.due(what, number(both[0]), number(both[1]));
    };
    answer.invoke(null, due);
  }

  private static long number(Object answer) {
    if (answer instanceof Boolean truth) {
      return truth ? 1 : 0;
    }
    return (Integer) answer;
  }

  private ReadmeTest() {
  }
}
