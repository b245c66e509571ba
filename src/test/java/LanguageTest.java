import java.io.IOException;
import java.lang.reflect.Constructor;
import java.lang.reflect.Field;
import java.lang.reflect.Method;
import java.lang.reflect.Modifier;
import java.nio.charset.StandardCharsets;
import java.nio.file.Files;
import java.nio.file.Path;
import java.util.Arrays;
import java.util.Set;
import java.util.TreeSet;
import java.util.regex.Matcher;
import java.util.regex.Pattern;

/** What of LANGUAGE.md can be seen from the outside: the face, the words that are not used, the sizes. */
public final class LanguageTest {
  private static final Checks CHECKS = new Checks("LanguageTest");

  private static final Set<String> FACE = Set.of("int feed(int,int,int,int,int)", "int back(int)", "int read()",
      "int place()", "int now(int)", "int square(int,int)", "int cars(int,int,int)", "int kick(int)", "int waits()",
      "boolean touch(int)", "boolean undo()", "int brings(int,int,int)", "int home(int,boolean)", "int best(int)",
      "int sure(int)", "int least(int)", "int rule(int,int,boolean)", "int comes(int,int,int,int,boolean)",
      "int worth(int,boolean,boolean)", "int face(int)", "int side(int)", "int goBy(int)", "int plan(int,int,int)",
      "int trap(int)", "int first(int,boolean)", "int can()", "int tell(int,int)", "int forget()", "int fits(int,int)",
      "int often(int,int)", "boolean hold(int)", "boolean restore(int)", "int count(int)");

  private static final String[] NEVER = {"throw", "throws", "try", "catch", "finally", "synchronized", "assert", "float",
      "double", "Object", "System\\.out", "protected", "->", "::", "@", "\\]\\s*\\[\\s*\\]\\s*\\[", "hashCode", "toString",
      "\\w+Exact", "volatile", "transient", "native", "import static", "\\bvar\\b", "var "};

  public static void main(String[] args) throws IOException {
    faceStands();
    insideIsStatic();
    wordsAreNotUsed();
    methodsAreShort();
    CHECKS.end();
  }

  private static void faceStands() {
    Class<?> stone = StoneHome.class;
    CHECKS.due("public and final", Modifier.isPublic(stone.getModifiers()) && Modifier.isFinal(stone.getModifiers()), true);
    Set<String> open = new TreeSet<>();
    Set<String> names = new TreeSet<>();
    for (Method m : stone.getDeclaredMethods()) {
      if (Modifier.isPublic(m.getModifiers())) {
        open.add(told(m));
        names.add(m.getName());
      }
    }
    CHECKS.due("the face is " + open, open.equals(new TreeSet<>(FACE)), true);
    for (Method m : stone.getDeclaredMethods()) {
      boolean isPrivate = Modifier.isPrivate(m.getModifiers());
      CHECKS.due(m.getName() + " is private or of the face", isPrivate || FACE.contains(told(m)), true);
      CHECKS.due(m.getName() + " bears no name of the face", isPrivate && names.contains(m.getName()), false);
    }
    for (Field f : stone.getDeclaredFields()) {
      CHECKS.due(f.getName() + " is private or NONE", Modifier.isPrivate(f.getModifiers()) || f.getName().equals("NONE"), true);
    }
    Constructor<?>[] made = stone.getDeclaredConstructors();
    CHECKS.due("one constructor without arguments", made.length == 1 && made[0].getParameterCount() == 0, true);
  }

  private static String told(Method m) {
    StringBuilder types = new StringBuilder();
    for (Class<?> type : m.getParameterTypes()) {
      types.append(types.length() == 0 ? "" : ",").append(type.getSimpleName());
    }
    return m.getReturnType().getSimpleName() + " " + m.getName() + "(" + types + ")";
  }

  private static void insideIsStatic() {
    Class<?>[] inside = StoneHome.class.getDeclaredClasses();
    CHECKS.due("classes", inside.length <= 11, true);
    for (Class<?> c : inside) {
      CHECKS.due(c + " is static", Modifier.isStatic(c.getModifiers()), true);
      CHECKS.due(c + " is neither public nor protected", (c.getModifiers() & (Modifier.PUBLIC | Modifier.PROTECTED)) == 0, true);
      sizes(c);
    }
    sizes(StoneHome.class);
  }

  private static void sizes(Class<?> c) {
    long fields = Arrays.stream(c.getDeclaredFields()).filter(f -> !Modifier.isStatic(f.getModifiers())).count();
    CHECKS.due(c + " has few fields", fields <= 20, true);
    for (Field f : c.getDeclaredFields()) {
      boolean changing = Modifier.isStatic(f.getModifiers()) && !Modifier.isFinal(f.getModifiers());
      CHECKS.due(f + " is no state of the class", changing, false);
    }
    for (Method m : c.getDeclaredMethods()) {
      CHECKS.due(m + " takes at most seven", m.getParameterCount() <= 7, true);
    }
  }

  private static void wordsAreNotUsed() throws IOException {
    byte[] bytes = Files.readAllBytes(Path.of("src/main/java/StoneHome.java"));
    String source = new String(bytes, StandardCharsets.ISO_8859_1);
    CHECKS.due("plain signs alone", source.chars().allMatch(c -> c == 10 || c >= 32 && c < 127), true);
    String code = source.replaceAll("(?s)/\\*.*?\\*/", " ").replaceAll("//[^\n]*", " ").replaceAll("\"[^\"\n]*\"", "\"\"");
    for (String word : NEVER) {
      String form = Character.isLetter(word.charAt(0)) ? "\\b" + word + "\\b" : word;
      Matcher found = Pattern.compile(form).matcher(code);
      CHECKS.due("no " + word, found.find(), false);
    }
    CHECKS.due("no texts joined by +", Pattern.compile("\"\\s*\\+|\\+\\s*\"").matcher(code).find(), false);
    CHECKS.due("no package", Pattern.compile("(?m)^package ").matcher(code).find(), false);
    Matcher imports = Pattern.compile("import ([\\w.]+);").matcher(code);
    while (imports.find()) {
      CHECKS.due("import of " + imports.group(1), imports.group(1).equals("java.util.Arrays"), true);
    }
  }

  /** From a line that opens a method to the one that closes it, as far indented. */
  private static void methodsAreShort() throws IOException {
    String source = Files.readString(Path.of("src/main/java/StoneHome.java"), StandardCharsets.ISO_8859_1);
    Matcher method = Pattern.compile("(?ms)^(  |    )(\\w[^\n;=]*\\)) \\{\n(.*?)^\\1\\}").matcher(source);
    int methods = 0;
    while (method.find()) {
      methods++;
      CHECKS.due(method.group(2) + " is short", method.group(3).lines().count() <= 58, true);
    }
    CHECKS.due("methods are found (" + methods + ")", methods > 100, true);
  }

  private LanguageTest() {
  }
}
