import java.io.IOException;
import java.lang.reflect.Constructor;
import java.lang.reflect.Field;
import java.lang.reflect.Method;
import java.lang.reflect.Modifier;
import java.nio.charset.StandardCharsets;
import java.nio.file.Files;
import java.nio.file.Path;
import java.util.Arrays;
import java.util.HashSet;
import java.util.List;
import java.util.Set;
import java.util.TreeSet;
import java.util.regex.Pattern;

/** What of LANGUAGE.md can be seen: in the class file, and in the source as the compiler sees it. WildTest has rules 7 and 13. */
public final class LanguageTest {
  private static final Checks CHECKS = new Checks("LanguageTest");
  private static final Path PLACE = Path.of("src/main/java/StoneHome.java");

  private static final Set<String> FACE = Set.of("int feed(int,int,int,int,int)", "int back(int)", "int read()",
      "int place()", "int now(int)", "int square(int,int)", "int cars(int,int,int)", "int kick(int)", "int waits()",
      "boolean touch(int)", "boolean undo()", "int brings(int,int,int)", "int home(int,boolean)", "int best(int)",
      "int sure(int)", "int least(int)", "int rule(int,int,boolean)", "int comes(int,int,int,int,boolean)",
      "int worth(int,boolean,boolean)", "int face(int)", "int side(int)", "int goBy(int)", "int plan(int,int,int)",
      "int trap(int)", "int first(int,boolean)", "int can()", "int tell(int,int)", "int forget()", "int fits(int,int)",
      "int often(int,int)", "boolean hold(int)", "boolean restore(int)", "int count(int)");

  private static final Set<String> PLAIN_TYPES = Set.of("int", "long", "short", "byte", "char", "boolean", "void",
      "java.lang.String", "java.lang.StringBuilder");
  private static final Set<String> LIBRARY = Set.of("java.lang.String.length()", "java.lang.String.charAt(int)",
      "java.lang.String.indexOf(int)", "java.lang.Math.max(int,int)", "java.lang.Math.min(int,int)",
      "java.lang.System.arraycopy(java.lang.Object,int,java.lang.Object,int,int)", "java.util.Arrays.fill(int[],int)");

  public static void main(String[] args) throws IOException {
    Source source = Source.read(PLACE);
    face();
    classesInside();
    types(source);
    library(source);
    for (String outside : source.outside) {
      CHECKS.due("rules 2, 3, 5, 6, 9, 10: " + outside, true, false);
    }
    divisions(source);
    depths(source);
    sizes(source);
    making(source);
    text();
    CHECKS.end();
  }

  private static void face() {
    Class<?> stone = StoneHome.class;
    CHECKS.due("rule 1: public and final", Modifier.isPublic(stone.getModifiers()) && Modifier.isFinal(stone.getModifiers()), true);
    Set<String> open = new TreeSet<>();
    Set<String> names = new TreeSet<>();
    for (Method m : stone.getDeclaredMethods()) {
      if (Modifier.isPublic(m.getModifiers())) {
        open.add(told(m));
        names.add(m.getName());
      }
    }
    CHECKS.due("rule 1: the face is " + open, open.equals(new TreeSet<>(FACE)), true);
    for (Method m : stone.getDeclaredMethods()) {
      boolean isPrivate = Modifier.isPrivate(m.getModifiers());
      CHECKS.due("rule 1: " + m.getName() + " is private or of the face", isPrivate || FACE.contains(told(m)), true);
      CHECKS.due("rule 1: " + m.getName() + " bears no name of the face", isPrivate && names.contains(m.getName()), false);
    }
    for (Field f : stone.getDeclaredFields()) {
      CHECKS.due("rule 1: " + f.getName() + " is private or NONE", Modifier.isPrivate(f.getModifiers()) || f.getName().equals("NONE"), true);
    }
    Constructor<?>[] made = stone.getDeclaredConstructors();
    CHECKS.due("rule 1: one constructor without arguments", made.length == 1 && made[0].getParameterCount() == 0, true);
  }

  private static String told(Method m) {
    List<String> types = Arrays.stream(m.getParameterTypes()).map(Class::getSimpleName).toList();
    return m.getReturnType().getSimpleName() + " " + m.getName() + "(" + String.join(",", types) + ")";
  }

  private static void classesInside() {
    Class<?>[] inside = StoneHome.class.getDeclaredClasses();
    CHECKS.due("rule 11: classes", inside.length + 1 <= 12, true);
    fields(StoneHome.class);
    for (Class<?> c : inside) {
      CHECKS.due("rule 1: " + c + " is static", Modifier.isStatic(c.getModifiers()), true);
      CHECKS.due("rule 1: " + c + " is neither public nor protected", (c.getModifiers() & (Modifier.PUBLIC | Modifier.PROTECTED)) == 0, true);
      fields(c);
      for (Method m : c.getDeclaredMethods()) {
        boolean named = FACE.stream().anyMatch(f -> f.contains(" " + m.getName() + "("));
        CHECKS.due("rule 1: " + m + " bears no name of the face", named, false);
      }
    }
  }

  private static void fields(Class<?> c) {
    long fields = Arrays.stream(c.getDeclaredFields()).filter(f -> !Modifier.isStatic(f.getModifiers())).count();
    CHECKS.due("rule 11: " + c + " has few fields", fields <= 20, true);
    for (Method m : c.getDeclaredMethods()) {
      CHECKS.due("rule 11: " + m + " takes at most seven", m.getParameterCount() <= 7, true);
    }
  }

  /** Numbers, texts, own classes, and arrays of these; of two dimensions of numbers alone. */
  private static void types(Source source) {
    for (String type : source.types) {
      String bare = type.replace("[]", "");
      int dimensions = (type.length() - bare.length()) / 2;
      boolean own = bare.startsWith("StoneHome.");
      boolean number = PLAIN_TYPES.contains(bare) && !bare.startsWith("java");
      CHECKS.due("rule 3: " + type, own && dimensions <= 1 || number && dimensions <= 2 || PLAIN_TYPES.contains(type), true);
    }
    CHECKS.due("rule 3: types are found", source.types.contains("int") && source.types.contains("StoneHome.Street"), true);
  }

  private static void library(Source source) {
    for (String used : source.library) {
      CHECKS.due("rule 4: " + used, LIBRARY.contains(used), true);
    }
    CHECKS.due("rule 4: calls are found", source.library.isEmpty(), false);
  }

  /** Each looks at its divisor first; a new one is to be looked at by hand and then stands here too. */
  private static void divisions(Source source) {
    Set<String> looked = Set.of("StoneHome.Laws.joined(int,int,int)", "StoneHome.Street.landing(int,int,int)",
        "StoneHome.commonDivisor(int,int)", "StoneHome.fraction(int,int,boolean)");
    for (String divider : source.dividers) {
      CHECKS.due("rule 7: the divisor in " + divider + " has been looked at", looked.contains(divider), true);
    }
  }

  private static void depths(Source source) {
    for (String method : source.calls.keySet()) {
      int depth = source.depth(method, new HashSet<>());
      CHECKS.due("rule 8: " + method + " calls itself by none", depth < 1000, true);
      CHECKS.due("rule 11: from " + method + " calls go " + depth + " deep", depth <= 8, true);
    }
    CHECKS.due("rule 11: the calls are found", source.depth("StoneHome.first(int,boolean)", new HashSet<>()) > 4, true);
  }

  private static void sizes(Source source) {
    for (String method : source.linesOf.keySet()) {
      CHECKS.due("rule 11: " + method + " is short", source.linesOf.get(method) <= 60, true);
    }
    CHECKS.due("rule 11: the methods are found", source.linesOf.size() > 100, true);
  }

  /** What is made, is made in constructors, but for the rows of the table; RoomTest counts them. */
  private static void making(Source source) {
    CHECKS.due("rule 12: makers are " + source.makers, source.makers.equals(Set.of("StoneHome.Table.turnTo(int)")), true);
  }

  private static void text() throws IOException {
    String source = Files.readString(PLACE, StandardCharsets.ISO_8859_1);
    CHECKS.due("rule 4: plain signs alone", source.chars().allMatch(c -> c == 10 || c >= 32 && c < 127), true);
    CHECKS.due("no package", Pattern.compile("(?m)^package ").matcher(source).find(), false);
    List<String> imports = Pattern.compile("(?m)^import .*;").matcher(source).results().map(r -> r.group()).toList();
    CHECKS.due("rule 4: imports are " + imports, imports.equals(List.of("import java.util.Arrays;")), true);
  }

  private LanguageTest() {
  }
}
