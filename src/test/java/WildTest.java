import java.lang.reflect.InvocationTargetException;
import java.lang.reflect.Method;
import java.lang.reflect.Modifier;
import java.nio.charset.StandardCharsets;
import java.util.ArrayList;
import java.util.Comparator;
import java.util.List;
import java.util.Random;

/** No call throws, for any arguments in any state, and the same calls always give the same answers (LANGUAGE.md, rules 7 and 13). */
public final class WildTest {
  private static final Checks CHECKS = new Checks("WildTest");
  private static final int RUNS = 250;
  private static final int CALLS = 512;
  private static final int[] EDGES = {Integer.MIN_VALUE, Integer.MIN_VALUE + 1, -1431655766, -65536, -100, -32, -9, -8, -7,
      -6, -5, -4, -3, -2, 8, 9, 10, 11, 12, 20, 24, 25, 31, 32, 33, 50, 51, 96, 99, 100, 101, 400, 1023, 1024, 2000, 2001,
      9999, 10000, 65536, 715827882, 1431655765, Integer.MAX_VALUE - 1, Integer.MAX_VALUE};

  private final Random random;
  private final Texts texts;
  private final StoneHome one = new StoneHome();
  private final StoneHome other = new StoneHome();
  private final List<Method> face;
  private final int wild;

  private WildTest(long seed, List<Method> face) {
    random = new Random(seed);
    texts = new Texts(seed);
    this.face = face;
    wild = 2 + random.nextInt(6);
  }

  public static void main(String[] args) throws IllegalAccessException {
    List<Method> face = new ArrayList<>();
    for (Method m : StoneHome.class.getDeclaredMethods()) {
      if (Modifier.isPublic(m.getModifiers())) {
        face.add(m);
      }
    }
    face.sort(Comparator.comparing(Method::getName));
    for (long seed = 1; seed <= RUNS && CHECKS.isClean(); seed++) {
      new WildTest(seed, face).run();
    }
    CHECKS.end();
  }

  private void run() throws IllegalAccessException {
    for (int i = 0; i < CALLS && CHECKS.isClean(); i++) {
      if (i == 3 || random.nextInt(150) == 0) {
        String text = texts.joined(random.nextInt(4) == 0 ? texts.spoiled(texts.whole()) : texts.whole());
        one.back(one.count(6));
        other.back(other.count(6));
        Checks.feed(one, text.getBytes(StandardCharsets.ISO_8859_1));
        Checks.feed(other, text.getBytes(StandardCharsets.ISO_8859_1));
        CHECKS.due("read of " + text, one.read(), other.read());
      } else {
        call(face.get(random.nextInt(face.size())));
      }
    }
  }

  private void call(Method m) throws IllegalAccessException {
    Object[] arguments = new Object[m.getParameterCount()];
    for (int i = 0; i < arguments.length; i++) {
      arguments[i] = m.getParameterTypes()[i] == boolean.class ? (Object) random.nextBoolean() : (Object) number();
    }
    Object answer = answer(one, m, arguments);
    CHECKS.due(m.getName() + List.of(arguments) + " answers alike", answer.equals(answer(other, m, arguments)), true);
  }

  private static Object answer(StoneHome home, Method m, Object[] arguments) throws IllegalAccessException {
    try {
      return m.invoke(home, arguments);
    } catch (InvocationTargetException thrown) {
      CHECKS.due(m.getName() + List.of(arguments) + " threw " + thrown.getCause(), true, false);
      return "thrown";
    }
  }

  private int number() {
    if (random.nextInt(wild) > 0) {
      return random.nextInt(9) - 1;
    }
    return random.nextInt(8) == 0 ? random.nextInt() : EDGES[random.nextInt(EDGES.length)];
  }
}
