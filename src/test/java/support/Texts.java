import java.util.ArrayList;
import java.util.List;
import java.util.Random;

/** Texts by chance: whole ones, and ones that a slip has spoiled. */
final class Texts {
  private static final String[] VARS = {"along", "across", "face", "sort", "which", "hard", "second"};
  private static final String[] SPOILS = {"row", "faces", "kick", "drift", "runs", "cars", "stone", "friend", "lives",
      "takes", "seed", "by", "turn", "if", "then", "else", "along", "second", ";", "=", "+", "-", "*", "/", "<", "(",
      ")", "0", "1", "2", "3", "6", "7", "10", "99", "100", "9999", "12345", "th", "tthx", "abcdefgh", "abcdefghi", "#",
      "A", "k", "kicks"};

  private final Random random;

  Texts(long seed) {
    random = new Random(seed);
  }

  private int upTo(int most) {
    return random.nextInt(most + 1);
  }

  private boolean oneIn(int n) {
    return random.nextInt(n) == 0;
  }

  List<String> whole() {
    List<String> tokens = new ArrayList<>();
    int rows = 1 + upTo(3);
    int length = 1 + upTo(oneIn(3) ? 7 : 4);
    String letters = oneIn(3) ? "ttttcshpw" : "tttttttcccssppggwwhh";
    for (int r = 0; r < rows; r++) {
      StringBuilder row = new StringBuilder();
      for (int i = 0; i < length; i++) {
        row.append(letters.charAt(random.nextInt(letters.length())));
      }
      if (r == 0 && !oneIn(20)) {
        row.setCharAt(0, 't');
      }
      if (r == rows - 1 && length > 1 && !oneIn(10)) {
        row.setCharAt(length - 1, 'h');
      }
      add(tokens, "row", row.toString(), ";");
    }
    int faces = 1 + upTo(2);
    add(tokens, "faces", "" + faces, ";");
    int kicks = 1 + upTo(oneIn(3) ? 3 : 2);
    for (int k = 0; k < kicks; k++) {
      kick(tokens, "k" + (char) ('a' + k));
    }
    for (String law : new String[] {"drift", "runs", "cars"}) {
      if (!oneIn(3)) {
        law(tokens, law);
      }
    }
    if (oneIn(2)) {
      add(tokens, "lives", "" + upTo(2), ";");
    }
    if (oneIn(2)) {
      add(tokens, "takes", "" + (oneIn(4) ? 1 + upTo(98) : 1 + upTo(6)), ";");
    }
    add(tokens, "seed", "" + upTo(9999), ";");
    if (oneIn(3)) {
      add(tokens, "stone", "" + upTo(length - 1), "" + upTo(rows - 1), "" + upTo(faces - 1), ";");
    }
    if (oneIn(3)) {
      add(tokens, "friend", "" + upTo(length - 1), "" + upTo(rows - 1), "" + upTo(faces - 1), ";");
    }
    return tokens;
  }

  private static void add(List<String> tokens, String... more) {
    tokens.addAll(List.of(more));
  }

  private void kick(List<String> tokens, String name) {
    add(tokens, "kick", name);
    int left = 6;
    while (left > 0) {
      int sixths = oneIn(3) ? left : 1 + upTo(left - 1);
      left -= sixths;
      add(tokens, "" + sixths, "by", "" + (oneIn(4) ? upTo(4) : upTo(2)));
      if (oneIn(4)) {
        add(tokens, "-");
      }
      add(tokens, "" + (oneIn(2) ? 0 : upTo(2)));
      if (oneIn(3)) {
        add(tokens, "turn", "" + upTo(2));
      }
    }
    add(tokens, ";");
  }

  private void law(List<String> tokens, String name) {
    add(tokens, name, "=");
    int ifs = oneIn(3) ? upTo(4) : upTo(1);
    for (int i = 0; i < ifs; i++) {
      add(tokens, "if");
      sum(tokens, 0);
      add(tokens, "<");
      sum(tokens, 0);
      add(tokens, "then");
      sum(tokens, 0);
      add(tokens, "else");
    }
    sum(tokens, 0);
    add(tokens, ";");
  }

  private void sum(List<String> tokens, int depth) {
    int parts = 1 + (oneIn(2) ? 0 : upTo(2));
    for (int i = 0; i < parts; i++) {
      if (i > 0) {
        add(tokens, oneIn(2) ? "+" : "-");
      }
      unit(tokens, depth);
      while (oneIn(3)) {
        add(tokens, oneIn(2) ? "*" : "/");
        unit(tokens, depth);
      }
    }
  }

  private void unit(List<String> tokens, int depth) {
    if (depth < 6 && oneIn(4)) {
      add(tokens, "(");
      sum(tokens, depth + 1);
      add(tokens, ")");
    } else if (oneIn(2)) {
      add(tokens, "" + (oneIn(10) ? upTo(9999) : upTo(4)));
    } else {
      add(tokens, VARS[random.nextInt(VARS.length)]);
    }
  }

  /** The same with a token gone, another, one more, or its end cut off. */
  List<String> spoiled(List<String> tokens) {
    List<String> bad = new ArrayList<>(tokens);
    int slips = 1 + upTo(1);
    for (int i = 0; i < slips && !bad.isEmpty(); i++) {
      int at = random.nextInt(bad.size());
      switch (random.nextInt(4)) {
        case 0 -> bad.remove(at);
        case 1 -> bad.set(at, SPOILS[random.nextInt(SPOILS.length)]);
        case 2 -> bad.add(at, SPOILS[random.nextInt(SPOILS.length)]);
        default -> bad = new ArrayList<>(bad.subList(0, at));
      }
    }
    return bad;
  }

  /** Blanks stand where two tokens would else be one, and elsewhere by chance. */
  String joined(List<String> tokens) {
    StringBuilder text = new StringBuilder();
    for (String token : tokens) {
      boolean apart = text.length() > 0 && sameSort(text.charAt(text.length() - 1), token.charAt(0));
      if (apart || oneIn(3)) {
        text.append("\t\n\r   ".charAt(random.nextInt(6)));
      }
      text.append(token);
    }
    return text.length() > 2000 ? text.substring(0, 2000) : text.toString();
  }

  private static boolean sameSort(char a, char b) {
    return Character.isDigit(a) && Character.isDigit(b) || Character.isLetter(a) && Character.isLetter(b);
  }
}
