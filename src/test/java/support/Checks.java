import java.nio.charset.StandardCharsets;

/** Counts the answers that are not as due, and brings texts onto a tape. */
final class Checks {
  private final String name;
  private int looked = 0;
  private int wrong = 0;

  Checks(String name) {
    this.name = name;
  }

  void due(String what, long got, long want) {
    looked++;
    if (got != want) {
      wrong++;
      System.out.println(name + ": " + what + " answered " + got + ", due is " + want);
    }
  }

  void due(String what, boolean got, boolean want) {
    due(what, got ? 1 : 0, want ? 1 : 0);
  }

  void dueFraction(String what, int above, int below, int wantAbove, int wantBelow) {
    due(what + " above", above, wantAbove);
    due(what + " below", below, wantBelow);
  }

  boolean isClean() {
    return wrong == 0;
  }

  void end() {
    System.out.println(wrong == 0 ? looked + " answers are as due" : wrong + " of " + looked + " answers are not as due");
    if (wrong != 0) {
      System.exit(1);
    }
  }

  /** Feeds the text in pieces of twenty bytes and takes back the filling of the last one. */
  static void feed(StoneHome home, byte[] text) {
    for (int at = 0; at < text.length; at += 20) {
      int[] words = new int[5];
      for (int i = 0; i < 20; i++) {
        int b = at + i < text.length ? text[at + i] & 255 : 32;
        words[i / 4] = words[i / 4] << 8 | b;
      }
      home.feed(words[0], words[1], words[2], words[3], words[4]);
    }
    if (text.length % 20 != 0) {
      home.back(20 - text.length % 20);
    }
  }

  static int read(StoneHome home, String text) {
    feed(home, text.getBytes(StandardCharsets.ISO_8859_1));
    return home.read();
  }

  /** A new object that goes on from a text without a fault. */
  StoneHome on(String text) {
    StoneHome home = new StoneHome();
    due("read of " + text, read(home, text), 0);
    return home;
  }
}
