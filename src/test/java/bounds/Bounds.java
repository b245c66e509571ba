import java.util.List;
import java.util.function.Consumer;
import java.util.function.IntUnaryOperator;
import java.util.function.ToLongFunction;

/** Looks at boundary cases, each under the sentence of the document that names it. */
final class Bounds {
  private static final int[] FAR_OFF = {Integer.MIN_VALUE, Integer.MIN_VALUE + 1, -100000, 100000, Integer.MAX_VALUE};

  private final Checks checks = new Checks("BoundaryTest");
  private final Document document = Document.read();
  private String sentence = "";

  /** From here on, what is looked at belongs to these words of the document. */
  void says(String part, String words) {
    sentence = part + " \"" + words + "\"";
    checks.due(sentence + " stands in the document", document.quote(part, words), true);
  }

  void due(String what, long got, long want) {
    checks.due(sentence + ": " + what, got, want);
  }

  void due(String what, boolean got, boolean want) {
    checks.due(sentence + ": " + what, got, want);
  }

  void part(String what, int above, int below, int wantAbove, int wantBelow) {
    checks.dueFraction(sentence + ": " + what, above, below, wantAbove, wantBelow);
  }

  StoneHome on(String text) {
    StoneHome x = new StoneHome();
    due("read of " + shown(text), Checks.read(x, text), 0);
    return x;
  }

  void taken(String text) {
    StoneHome x = on(text);
    due("place of " + shown(text), x.place(), StoneHome.NONE);
  }

  void fault(String text, int number, int place) {
    StoneHome x = new StoneHome();
    due("read of " + shown(text), Checks.read(x, text), number);
    due("place of " + shown(text), x.place(), place);
    due("tape behind " + shown(text), x.count(6), 0);
  }

  /** The call answers so, and all else is as it is with one on which it was not done. */
  void refused(String what, Consumer<StoneHome> scene, ToLongFunction<StoneHome> call, long want) {
    StoneHome x = new StoneHome();
    StoneHome untouched = new StoneHome();
    scene.accept(x);
    scene.accept(untouched);
    due(what, call.applyAsLong(x), want);
    same("all else behind " + what, Picture.of(x), Picture.of(untouched));
  }

  void refusedAlways(String what, ToLongFunction<StoneHome> call, long want) {
    for (Consumer<StoneHome> scene : Scenes.ALL) {
      refused(what, scene, call, want);
    }
  }

  void refusedWhenOver(String what, ToLongFunction<StoneHome> call, long want) {
    for (Consumer<StoneHome> scene : Scenes.OVER) {
      refused(what, scene, call, want);
    }
  }

  void same(String what, List<String> got, List<String> want) {
    due(what + ": how much there is to see", got.size(), want.size());
    for (int i = 0; i < got.size() && i < want.size(); i++) {
      due(what + ": " + got.get(i) + " for " + want.get(i), got.get(i).equals(want.get(i)), true);
    }
  }

  /** What now() answers, from what 0 on. */
  void now(StoneHome x, int... all) {
    for (int what = 0; what < all.length; what++) {
      due("now(" + what + ")", x.now(what), all[what]);
    }
  }

  /** Both ends are taken; what is one beyond them, or far off, answers NONE. */
  void ends(String what, int least, int most, IntUnaryOperator call) {
    due(what + " takes " + least, call.applyAsInt(least) != StoneHome.NONE, true);
    due(what + " takes " + most, call.applyAsInt(most) != StoneHome.NONE, true);
    due(what + " of " + (least - 1), call.applyAsInt(least - 1), StoneHome.NONE);
    due(what + " of " + (most + 1), call.applyAsInt(most + 1), StoneHome.NONE);
    for (int far : FAR_OFF) {
      due(what + " of " + far, call.applyAsInt(far), StoneHome.NONE);
    }
  }

  void end() {
    for (String rest : document.unquoted()) {
      checks.due("no test quotes " + rest, true, false);
    }
    checks.end();
  }

  /** A boolean answer as a number, as refused() wants it. */
  static long truth(boolean answer) {
    return answer ? 1 : 0;
  }

  private static String shown(String text) {
    StringBuilder plain = new StringBuilder();
    for (char sign : text.toCharArray()) {
      plain.append(sign >= 32 && sign < 127 ? "" + sign : "<" + (int) sign + ">");
    }
    return plain.length() > 120 ? plain.substring(0, 50) + " .. " + plain.substring(plain.length() - 50) : plain.toString();
  }
}
