import java.math.BigInteger;
import java.nio.charset.StandardCharsets;
import java.util.ArrayDeque;
import java.util.ArrayList;
import java.util.Arrays;
import java.util.Deque;
import java.util.HashMap;
import java.util.List;
import java.util.Map;
import java.util.Set;

/**
 * The document once more, as plainly as it can be told: trees of objects, exact fractions, every path walked.
 * It shares nothing with StoneHome; where both were written from the same words, they must agree.
 */
final class Model {
  static final int NONE = -1;

  /** A fraction that cannot be lessened. */
  static final class Part implements Comparable<Part> {
    static final Part NOTHING = new Part(BigInteger.ZERO, BigInteger.ONE);
    static final Part ALL = new Part(BigInteger.ONE, BigInteger.ONE);
    final BigInteger above;
    final BigInteger below;

    Part(BigInteger above, BigInteger below) {
      BigInteger common = above.gcd(below);
      this.above = above.divide(common);
      this.below = below.divide(common);
    }

    static Part of(long above, long below) {
      return new Part(BigInteger.valueOf(above), BigInteger.valueOf(below));
    }

    Part plus(Part o) {
      return new Part(above.multiply(o.below).add(o.above.multiply(below)), below.multiply(o.below));
    }

    Part minus(Part o) {
      return new Part(above.multiply(o.below).subtract(o.above.multiply(below)), below.multiply(o.below));
    }

    Part times(Part o) {
      return new Part(above.multiply(o.above), below.multiply(o.below));
    }

    @Override
    public int compareTo(Part o) {
      return above.multiply(o.below).compareTo(o.above.multiply(below));
    }

    int side(boolean wantsBelow) {
      return (wantsBelow ? below : above).intValueExact();
    }
  }

  static final class Fault extends Exception {
    private static final long serialVersionUID = 1L;
    final int number;
    final int place;

    Fault(int number, int place) {
      this.number = number;
      this.place = place;
    }
  }

  static final class ByZero extends Exception {
    private static final long serialVersionUID = 1L;
  }

  interface Formula {
    int of(Map<String, Integer> facts) throws ByZero;
  }

  static final class Branch {
    Formula one;
    Formula other;
    Formula then;
  }

  static final class Law {
    final List<Branch> branches = new ArrayList<>();
    Formula last = facts -> 0;

    int of(Map<String, Integer> facts) {
      try {
        for (Branch b : branches) {
          if (b.one.of(facts) < b.other.of(facts)) {
            return b.then.of(facts);
          }
        }
        return last.of(facts);
      } catch (ByZero zero) {
        return 0;
      }
    }
  }

  static final class Outcome {
    int sixths;
    int along;
    int across;
    int turn;
  }

  static final class Kick {
    String name;
    final List<Outcome> outcomes = new ArrayList<>();
  }

  static final class Town {
    final List<String> rows = new ArrayList<>();
    int faces = 1;
    final List<Kick> kicks = new ArrayList<>();
    final Map<String, Law> laws = new HashMap<>(Map.of("drift", new Law(), "runs", new Law(), "cars", new Law()));
    int[] stone = {0, 0, 0};
    int[] friend = {0, 0, 0};
    int lives = 0;
    int takes = 5;
    int seed = 0;

    int sort(int along, int across) {
      if (across < 0 || across >= rows.size() || along < 0 || along >= rows.get(0).length()) {
        return NONE;
      }
      return "tcspgwh".indexOf(rows.get(across).charAt(along));
    }
  }

  /** How it stands with a stone. */
  record State(int along, int across, int face, int lives, int second, boolean lost) {
  }

  private static final class Token {
    String text;
    int place;
    /** n name, w word, i int, s sign, x none, e end. */
    char sort;
  }

  private static final Set<String> WORDS = Set.of("row", "faces", "kick", "drift", "runs", "cars", "stone", "friend",
      "lives", "takes", "seed", "by", "turn", "if", "then", "else", "along", "across", "face", "sort", "which", "hard",
      "second");
  private static final Set<String> VARS = Set.of("along", "across", "face", "sort", "which", "hard", "second");

  private static final class TextReader {
    final String text;
    int at = 0;
    int count = 0;
    Token next;
    final Town town = new Town();
    final List<Fault> late = new ArrayList<>();

    TextReader(String text) {
      this.text = text;
    }

    Town read() throws Fault {
      scan();
      while (next.sort != 'e') {
        tell();
      }
      late.sort((a, b) -> a.place != b.place ? a.place - b.place : a.number - b.number);
      if (!late.isEmpty()) {
        throw late.get(0);
      }
      if (town.rows.isEmpty() || town.kicks.isEmpty() || !lies(town.stone) || !lies(town.friend)) {
        throw new Fault(7, text.length());
      }
      return town;
    }

    boolean lies(int[] spot) {
      int sort = town.sort(spot[0], spot[1]);
      return sort != NONE && sort != 4 && sort != 5 && spot[2] < town.faces;
    }

    void scan() {
      while (at < text.length() && "\t\n\r ".indexOf(text.charAt(at)) >= 0) {
        at++;
      }
      next = new Token();
      next.place = at;
      int from = at;
      if (at == text.length()) {
        next.sort = 'e';
        next.text = "";
        return;
      }
      char c = text.charAt(at);
      if (c >= 'a' && c <= 'z') {
        while (at < text.length() && text.charAt(at) >= 'a' && text.charAt(at) <= 'z') {
          at++;
        }
        next.text = text.substring(from, at);
        next.sort = next.text.length() > 8 ? 'x' : WORDS.contains(next.text) ? 'w' : 'n';
      } else if (c >= '0' && c <= '9') {
        while (at < text.length() && text.charAt(at) >= '0' && text.charAt(at) <= '9') {
          at++;
        }
        next.text = text.substring(from, at);
        next.sort = next.text.length() > 4 ? 'x' : 'i';
      } else {
        at++;
        next.text = text.substring(from, at);
        next.sort = ";=+-*/<()".indexOf(c) >= 0 ? 's' : 'x';
      }
    }

    boolean is(String wanted) {
      return (next.sort == 'w' || next.sort == 's') && next.text.equals(wanted);
    }

    Token take(boolean fits) throws Fault {
      if (!fits) {
        throw new Fault(1, next.place);
      }
      count++;
      if (count > 400) {
        throw new Fault(2, next.place);
      }
      Token taken = next;
      scan();
      return taken;
    }

    void take(String wanted) throws Fault {
      take(is(wanted));
    }

    void room(boolean there) throws Fault {
      if (!there) {
        throw new Fault(2, next.place);
      }
    }

    int number(int least, int most) throws Fault {
      Token taken = take(next.sort == 'i');
      int value = Integer.parseInt(taken.text);
      if (value < least || value > most) {
        late.add(new Fault(5, taken.place));
      }
      return value;
    }

    void tell() throws Fault {
      String what = next.sort == 'w' ? next.text : "";
      if (what.equals("row")) {
        row();
      } else if (what.equals("kick")) {
        kick();
      } else if (town.laws.containsKey(what)) {
        take(true);
        town.laws.put(what, law());
      } else if (what.equals("stone") || what.equals("friend")) {
        take(true);
        int[] spot = {number(0, 9), number(0, 9), number(0, 9)};
        if (what.equals("stone")) {
          town.stone = spot;
        } else {
          town.friend = spot;
        }
      } else if (what.equals("faces")) {
        take(true);
        town.faces = number(1, 3);
      } else if (what.equals("lives")) {
        take(true);
        town.lives = number(0, 2);
      } else if (what.equals("takes")) {
        take(true);
        town.takes = number(1, 99);
      } else if (what.equals("seed")) {
        take(true);
        town.seed = number(0, 9999);
      } else {
        take(false);
      }
      take(";");
    }

    void row() throws Fault {
      room(town.rows.size() < 4);
      take(true);
      Token name = take(next.sort == 'n');
      boolean good = name.text.chars().allMatch(c -> "tcspgwh".indexOf(c) >= 0);
      if (!good || !town.rows.isEmpty() && town.rows.get(0).length() != name.text.length()) {
        late.add(new Fault(6, name.place));
      }
      town.rows.add(name.text);
    }

    void kick() throws Fault {
      room(town.kicks.size() < 4);
      take(true);
      Token name = take(next.sort == 'n');
      Kick kick = new Kick();
      kick.name = name.text;
      if (town.kicks.stream().anyMatch(k -> k.name.equals(kick.name))) {
        late.add(new Fault(3, name.place));
      }
      int sum = 0;
      while (next.sort == 'i') {
        room(kick.outcomes.size() < 6);
        Outcome o = new Outcome();
        o.sixths = number(1, 6);
        sum += o.sixths;
        take("by");
        o.along = number(0, 4);
        int way = 1;
        if (is("-")) {
          take(true);
          way = -1;
        }
        o.across = way * number(0, 2);
        if (is("turn")) {
          take(true);
          o.turn = number(0, 2);
        }
        kick.outcomes.add(o);
      }
      if (sum != 6) {
        late.add(new Fault(5, name.place));
      }
      town.kicks.add(kick);
    }

    Law law() throws Fault {
      take("=");
      Law law = new Law();
      while (is("if")) {
        room(law.branches.size() < 4);
        take(true);
        Branch b = new Branch();
        b.one = sum(0);
        take("<");
        b.other = sum(0);
        take("then");
        b.then = sum(0);
        take("else");
        law.branches.add(b);
      }
      law.last = sum(0);
      return law;
    }

    Formula sum(int depth) throws Fault {
      Formula left = product(depth);
      while (is("+") || is("-")) {
        boolean plus = take(true).text.equals("+");
        Formula one = left;
        Formula other = product(depth);
        left = plus ? f -> one.of(f) + other.of(f) : f -> one.of(f) - other.of(f);
      }
      return left;
    }

    Formula product(int depth) throws Fault {
      Formula left = unit(depth);
      while (is("*") || is("/")) {
        boolean times = take(true).text.equals("*");
        Formula one = left;
        Formula other = unit(depth);
        left = times ? f -> one.of(f) * other.of(f) : f -> quotient(one.of(f), other.of(f));
      }
      return left;
    }

    static int quotient(int a, int b) throws ByZero {
      if (b == 0) {
        throw new ByZero();
      }
      return a / b;
    }

    Formula unit(int depth) throws Fault {
      if (next.sort == 'i') {
        int value = Integer.parseInt(take(true).text);
        return f -> value;
      }
      if (next.sort == 'w' && VARS.contains(next.text)) {
        String name = take(true).text;
        return f -> f.get(name);
      }
      if (is("(")) {
        room(depth < 6);
        take(true);
        Formula inner = sum(depth + 1);
        take(")");
        return inner;
      }
      take(false);
      return null;
    }
  }

  private final StringBuilder tape = new StringBuilder();
  private int faultPlace = NONE;
  private Town town = new Town();
  private State state;
  private int done;
  private int touches;
  private int livesLost;
  private final Deque<Object[]> past = new ArrayDeque<>();
  private final Object[][] slots = new Object[3][];
  private final List<int[]> told = new ArrayList<>();
  private final Map<List<Object>, Part> seen = new HashMap<>();

  Model() {
    town.rows.add("th");
    Kick kick = new Kick();
    Outcome o = new Outcome();
    o.sixths = 6;
    o.along = 1;
    kick.outcomes.add(o);
    town.kicks.add(kick);
    begin();
  }

  private void begin() {
    state = new State(town.stone[0], town.stone[1], town.stone[2], town.lives, 0, false);
    done = 0;
    touches = 0;
    livesLost = 0;
    past.clear();
    Arrays.fill(slots, null);
    told.clear();
    seen.clear();
  }

  int feed(int a, int b, int c, int d, int e) {
    if (tape.length() > 1980) {
      return NONE;
    }
    for (int word : new int[] {a, b, c, d, e}) {
      byte[] four = {(byte) (word >> 24), (byte) (word >> 16), (byte) (word >> 8), (byte) word};
      tape.append(new String(four, StandardCharsets.ISO_8859_1));
    }
    return tape.length();
  }

  int back(int n) {
    if (n < 0 || n > tape.length()) {
      return NONE;
    }
    tape.setLength(tape.length() - n);
    return tape.length();
  }

  int read() {
    String text = tape.toString();
    tape.setLength(0);
    try {
      town = new TextReader(text).read();
      faultPlace = NONE;
      begin();
      return 0;
    } catch (Fault fault) {
      faultPlace = fault.place;
      return fault.number;
    }
  }

  int place() {
    return faultPlace;
  }

  private boolean isHome(State s) {
    return !s.lost && town.sort(s.along, s.across) == 6;
  }

  private boolean isOver(State s) {
    return s.lost || isHome(s);
  }

  private boolean isCars(int along, int across, int second) {
    return law("cars", along, across, 0, -1, 0, second) > 0;
  }

  private int law(String name, int along, int across, int face, int which, int hard, int second) {
    Map<String, Integer> facts = new HashMap<>();
    facts.put("along", along);
    facts.put("across", across);
    facts.put("face", face);
    facts.put("sort", town.sort(along, across));
    facts.put("which", which);
    facts.put("hard", hard);
    facts.put("second", second);
    return town.laws.get(name).of(facts);
  }

  private boolean canKick(State s, int kick) {
    if (isOver(s) || kick < 0 || kick >= town.kicks.size()) {
      return false;
    }
    return town.sort(s.along, s.across) != 3 || town.kicks.get(kick).outcomes.size() == 1;
  }

  private State lose(State s, int second) {
    if (s.lives > 0) {
      return new State(s.along, s.across, s.face, s.lives - 1, second, false);
    }
    return new State(s.along, s.across, s.face, 0, second, true);
  }

  /** Where an outcome brings it, null for LOST. */
  private State landed(State s, int kick, int outcome) {
    Outcome o = town.kicks.get(kick).outcomes.get(outcome);
    int runs = law("runs", s.along, s.across, s.face, kick, o.along, s.second);
    int drift = law("drift", s.along, s.across, s.face, kick, o.along, s.second);
    int along = s.along + o.along + Math.min(4, Math.max(-4, runs));
    int across = s.across + o.across + Math.min(2, Math.max(-2, drift));
    int face = (s.face + o.turn) % town.faces;
    int second = s.second + town.takes;
    int last = town.rows.get(0).length() - 1;
    along = along > last ? last : along < 0 ? 0 : along;
    int sort = town.sort(along, across);
    if (sort == 5) {
      return new State(s.along, s.across, face, s.lives, second, false);
    }
    if (sort == NONE || sort == 4 || sort != 6 && isCars(along, across, second)) {
      return null;
    }
    return new State(along, across, face, s.lives, second, false);
  }

  private State kicked(State s, int kick, int outcome) {
    State to = landed(s, kick, outcome);
    return to == null ? lose(s, s.second + town.takes) : to;
  }

  private State waited(State s) {
    int second = s.second + town.takes;
    if (isCars(s.along, s.across, second)) {
      return lose(s, second);
    }
    return new State(s.along, s.across, s.face, s.lives, second, false);
  }

  int now(int what) {
    int[] all = {state.lost ? -2 : state.along, state.lost ? -2 : state.across, state.face, state.lives, done,
        state.second, touches, isHome(state) ? 1 : state.lost ? 2 : 0, livesLost};
    return what < 0 || what >= all.length ? NONE : all[what];
  }

  int square(int along, int across) {
    return town.sort(along, across);
  }

  int cars(int along, int across, int second) {
    if (town.sort(along, across) == NONE || second < 0 || second > 9999) {
      return NONE;
    }
    return isCars(along, across, second) ? 1 : 0;
  }

  private Object[] picture() {
    return new Object[] {state, done, touches, livesLost};
  }

  private void goOnFrom(Object[] picture) {
    state = (State) picture[0];
    done = (Integer) picture[1];
    touches = (Integer) picture[2];
    livesLost = (Integer) picture[3];
  }

  private void keep() {
    past.addLast(picture());
    if (past.size() > 50) {
      past.removeFirst();
    }
  }

  private int lot(int which) {
    int h = town.seed;
    for (int word : new int[] {55, which}) {
      h = (h ^ word) * 1103515245 + 12345;
      h = h ^ (h >>> 15);
    }
    return (h >>> 1) % 6;
  }

  int kick(int kick) {
    if (kick < 0 || kick >= town.kicks.size()) {
      return NONE;
    }
    if (!canKick(state, kick)) {
      return -2;
    }
    int lot = lot(done);
    int outcome = 0;
    int sum = town.kicks.get(kick).outcomes.get(0).sixths;
    while (sum <= lot) {
      outcome++;
      sum += town.kicks.get(kick).outcomes.get(outcome).sixths;
    }
    return come(kicked(state, kick, outcome));
  }

  int waits() {
    return isOver(state) ? -2 : come(waited(state));
  }

  private int come(State to) {
    keep();
    boolean less = to.lives < state.lives;
    state = to;
    done++;
    livesLost += less ? 1 : 0;
    return to.lost ? 2 : less ? 3 : isHome(to) ? 1 : 0;
  }

  /** Where a touch lays it, null for none. */
  private State touched(int way) {
    if (way < 0 || way > 3 || isOver(state)) {
      return null;
    }
    int along = state.along + (way == 0 ? 1 : way == 1 ? -1 : 0);
    int across = state.across + (way == 2 ? 1 : way == 3 ? -1 : 0);
    int sort = town.sort(along, across);
    if (sort == NONE || sort == 4 || sort == 5) {
      return null;
    }
    return new State(along, across, state.face, state.lives, state.second, false);
  }

  boolean touch(int way) {
    State to = touched(way);
    if (to == null) {
      return false;
    }
    keep();
    touches++;
    state = to;
    return true;
  }

  boolean undo() {
    if (past.isEmpty()) {
      return false;
    }
    goOnFrom(past.removeLast());
    return true;
  }

  int brings(int kick, int outcome, int what) {
    if (!canKick(state, kick) || outcome < 0 || outcome >= town.kicks.get(kick).outcomes.size() || what < 0 || what > 3) {
      return NONE;
    }
    State landed = landed(state, kick, outcome);
    State to = kicked(state, kick, outcome);
    if (what == 3) {
      return landed == null ? 1 : 0;
    }
    return to.lost ? -2 : what == 0 ? to.along : what == 1 ? to.across : to.face;
  }

  private boolean isSpan(int n) {
    return n >= 0 && n <= 10;
  }

  private Part homePart(State s, int n) {
    if (isHome(s)) {
      return Part.ALL;
    }
    if (s.lost || n == 0) {
      return Part.NOTHING;
    }
    List<Object> key = List.of(s, n);
    Part known = seen.get(key);
    if (known != null) {
      return known;
    }
    Part most = Part.NOTHING;
    for (int action = 0; action <= town.kicks.size(); action++) {
      Part part = byAction(s, action, n);
      if (part != null && part.compareTo(most) > 0) {
        most = part;
      }
    }
    seen.put(key, most);
    return most;
  }

  /** HOME in n if that is done first; null if it cannot be. */
  private Part byAction(State s, int action, int n) {
    if (action == town.kicks.size()) {
      return homePart(waited(s), n - 1);
    }
    if (!canKick(s, action)) {
      return null;
    }
    Part sum = Part.NOTHING;
    List<Outcome> outcomes = town.kicks.get(action).outcomes;
    for (int o = 0; o < outcomes.size(); o++) {
      sum = sum.plus(Part.of(outcomes.get(o).sixths, 6).times(homePart(kicked(s, action, o), n - 1)));
    }
    return sum;
  }

  private int bestOf(State s, int n) {
    Part most = null;
    int found = NONE;
    for (int action = 0; action <= town.kicks.size(); action++) {
      Part part = byAction(s, action, n);
      if (part != null && (most == null || part.compareTo(most) > 0)) {
        most = part;
        found = action;
      }
    }
    return found;
  }

  int home(int n, boolean below) {
    return isSpan(n) ? homePart(state, n).side(below) : NONE;
  }

  int best(int n) {
    return n < 1 || n > 10 ? NONE : isOver(state) ? -2 : bestOf(state, n);
  }

  int sure(int n) {
    return isSpan(n) ? homePart(state, n).compareTo(Part.ALL) == 0 ? 1 : 0 : NONE;
  }

  int least(int p) {
    if (p < 0 || p > 100) {
      return NONE;
    }
    for (int n = 0; n <= 10; n++) {
      if (homePart(state, n).compareTo(Part.of(p, 100)) >= 0) {
        return n;
      }
    }
    return -2;
  }

  /** How likely each state is behind just n by the rule. */
  private Map<State, Part> spread(int kick, int n) {
    Map<State, Part> spread = new HashMap<>();
    spread.put(state, Part.ALL);
    for (int i = 0; i < n; i++) {
      Map<State, Part> next = new HashMap<>();
      for (Map.Entry<State, Part> e : spread.entrySet()) {
        State s = e.getKey();
        if (isOver(s)) {
          next.merge(s, e.getValue(), Part::plus);
        } else if (!canKick(s, kick)) {
          next.merge(waited(s), e.getValue(), Part::plus);
        } else {
          List<Outcome> outcomes = town.kicks.get(kick).outcomes;
          for (int o = 0; o < outcomes.size(); o++) {
            next.merge(kicked(s, kick, o), e.getValue().times(Part.of(outcomes.get(o).sixths, 6)), Part::plus);
          }
        }
      }
      spread = next;
    }
    return spread;
  }

  int rule(int kick, int n, boolean below) {
    if (kick < 0 || kick >= town.kicks.size() || !isSpan(n)) {
      return NONE;
    }
    Part sum = Part.NOTHING;
    for (Map.Entry<State, Part> e : spread(kick, n).entrySet()) {
      sum = isHome(e.getKey()) ? sum.plus(e.getValue()) : sum;
    }
    return sum.side(below);
  }

  int comes(int kick, int n, int along, int across, boolean below) {
    if (kick < 0 || kick >= town.kicks.size() || !isSpan(n) || town.sort(along, across) == NONE) {
      return NONE;
    }
    Part sum = Part.NOTHING;
    for (Map.Entry<State, Part> e : spread(kick, n).entrySet()) {
      State s = e.getKey();
      sum = !s.lost && s.along == along && s.across == across ? sum.plus(e.getValue()) : sum;
    }
    return sum.side(below);
  }

  private State laid(int along, int across, int face, int lives, int second) {
    return new State(along, across, face, lives, second, false);
  }

  int worth(int n, boolean life, boolean below) {
    if (!isSpan(n)) {
      return NONE;
    }
    if (isOver(state)) {
      return below ? 1 : 0;
    }
    Part now = homePart(state, n);
    Part other = now;
    if (life) {
      other = homePart(laid(state.along, state.across, state.face, state.lives + 1, state.second), n);
    } else {
      for (int way = 0; way < 4; way++) {
        State to = touched(way);
        if (to != null && homePart(to, n).compareTo(other) > 0) {
          other = homePart(to, n);
        }
      }
    }
    return other.minus(now).side(below);
  }

  int face(int n) {
    if (!isSpan(n)) {
      return NONE;
    }
    if (isOver(state)) {
      return -2;
    }
    int found = 0;
    Part most = null;
    for (int f = 0; f < town.faces; f++) {
      Part part = homePart(laid(state.along, state.across, f, state.lives, state.second), n);
      if (most == null || part.compareTo(most) > 0) {
        most = part;
        found = f;
      }
    }
    return found;
  }

  int side(int n) {
    if (!isSpan(n)) {
      return NONE;
    }
    if (isOver(state)) {
      return -2;
    }
    int found = NONE;
    Part most = null;
    for (int row = 0; row < town.rows.size(); row++) {
      int sort = town.sort(state.along, row);
      if (sort != 4 && sort != 5) {
        Part part = homePart(laid(state.along, row, state.face, state.lives, state.second), n);
        if (most == null || part.compareTo(most) > 0) {
          most = part;
          found = row;
        }
      }
    }
    return found;
  }

  int goBy(int n) {
    if (!isSpan(n)) {
      return NONE;
    }
    if (isOver(state)) {
      return -2;
    }
    int found = 0;
    Part most = homePart(state, n);
    State s = state;
    for (int waits = 1; waits <= 5 && !s.lost; waits++) {
      s = waited(s);
      if (homePart(s, n).compareTo(most) > 0) {
        most = homePart(s, n);
        found = waits;
      }
    }
    return found;
  }

  int plan(int n, int along, int across) {
    int sort = town.sort(along, across);
    if (n < 1 || n > 10 || sort == NONE) {
      return NONE;
    }
    return sort > 3 ? -2 : bestOf(laid(along, across, state.face, state.lives, state.second), n);
  }

  int trap(int n) {
    if (!isSpan(n)) {
      return NONE;
    }
    int traps = 0;
    for (int across = 0; across < town.rows.size(); across++) {
      for (int along = 0; along < town.rows.get(0).length(); along++) {
        int sort = town.sort(along, across);
        boolean trap = sort != 4 && sort != 5;
        for (int f = 0; f < town.faces; f++) {
          trap = trap && homePart(laid(along, across, f, state.lives, state.second), n).above.signum() == 0;
        }
        traps += trap ? 1 : 0;
      }
    }
    return traps;
  }

  private Part firstPart(State mine, State his, int turn, int turns, Map<List<Object>, Part> known) {
    if (isHome(mine)) {
      return Part.ALL;
    }
    if (mine.lost || isHome(his) || turn == turns) {
      return Part.NOTHING;
    }
    List<Object> key = List.of(mine, his, turn);
    if (known.containsKey(key)) {
      return known.get(key);
    }
    boolean my = turn % 2 == 0;
    int second = state.second + turn * town.takes;
    State s = my ? mine : his;
    State mover = new State(s.along, s.across, s.face, 0, second, s.lost);
    Part found = null;
    if (mover.lost) {
      found = firstPart(mine, his, turn + 1, turns, known);
    } else {
      for (int action = 0; action <= town.kicks.size(); action++) {
        Part part = firstBy(mine, his, turn, turns, known, mover, action);
        if (part != null && (found == null || (my ? part.compareTo(found) > 0 : part.compareTo(found) < 0))) {
          found = part;
        }
      }
    }
    known.put(key, found);
    return found;
  }

  private Part firstBy(State mine, State his, int turn, int turns, Map<List<Object>, Part> known, State mover, int action) {
    boolean my = turn % 2 == 0;
    if (action == town.kicks.size()) {
      State to = waited(mover);
      return firstPart(my ? to : mine, my ? his : to, turn + 1, turns, known);
    }
    if (!canKick(mover, action)) {
      return null;
    }
    Part sum = Part.NOTHING;
    List<Outcome> outcomes = town.kicks.get(action).outcomes;
    for (int o = 0; o < outcomes.size(); o++) {
      State to = kicked(mover, action, o);
      Part part = firstPart(my ? to : mine, my ? his : to, turn + 1, turns, known);
      sum = sum.plus(part.times(Part.of(outcomes.get(o).sixths, 6)));
    }
    return sum;
  }

  int first(int n, boolean below) {
    if (n < 1 || n > 3) {
      return NONE;
    }
    if (isOver(state)) {
      return -2;
    }
    State mine = laid(state.along, state.across, state.face, 0, 0);
    State his = laid(town.friend[0], town.friend[1], town.friend[2], 0, 0);
    return firstPart(mine, his, 0, 2 * n, new HashMap<>()).side(below);
  }

  int can() {
    int bits = 0;
    for (int kick = 0; kick < town.kicks.size(); kick++) {
      bits += canKick(state, kick) ? 1 << kick : 0;
    }
    return bits;
  }

  int tell(int along, int across) {
    if (told.size() == 5 || town.sort(along, across) == NONE) {
      return NONE;
    }
    told.add(new int[] {along, across});
    return told.size() - 1;
  }

  int forget() {
    int were = told.size();
    told.clear();
    return were;
  }

  /** Walks every row of outcomes; adds, for each row of kicks, of how many it is the way. */
  private void walk(State s, int k, int depth, int code, int ways, Map<Integer, Integer> fitting) {
    if (depth == k) {
      fitting.merge(code, ways, Integer::sum);
      return;
    }
    for (int kick = 0; kick < town.kicks.size(); kick++) {
      if (canKick(s, kick)) {
        List<Outcome> outcomes = town.kicks.get(kick).outcomes;
        for (int o = 0; o < outcomes.size(); o++) {
          State to = landed(s, kick, o);
          if (to != null && to.along == told.get(depth)[0] && to.across == told.get(depth)[1]) {
            walk(to, k, depth + 1, code * 4 + kick, ways * outcomes.get(o).sixths, fitting);
          }
        }
      }
    }
  }

  private List<int[]> fitting(int k) {
    Map<Integer, Integer> fitting = new HashMap<>();
    walk(laid(town.stone[0], town.stone[1], town.stone[2], 0, 0), k, 0, 0, 1, fitting);
    List<int[]> rows = new ArrayList<>();
    fitting.forEach((code, ways) -> rows.add(new int[] {code, ways}));
    rows.sort((a, b) -> a[0] - b[0]);
    return rows;
  }

  int fits(int k, int i) {
    if (k < 0 || k > told.size() || i < NONE) {
      return NONE;
    }
    List<int[]> rows = fitting(k);
    return i == NONE ? rows.size() : i < rows.size() ? rows.get(i)[0] : NONE;
  }

  int often(int k, int i) {
    if (k < 0 || k > told.size() || i < 0) {
      return NONE;
    }
    List<int[]> rows = fitting(k);
    return i < rows.size() ? rows.get(i)[1] : NONE;
  }

  boolean hold(int slot) {
    if (slot < 0 || slot > 2) {
      return false;
    }
    slots[slot] = picture();
    return true;
  }

  boolean restore(int slot) {
    if (slot < 0 || slot > 2 || slots[slot] == null) {
      return false;
    }
    goOnFrom(slots[slot]);
    past.clear();
    return true;
  }

  int count(int what) {
    int homes = 0;
    for (String row : town.rows) {
      homes += (int) row.chars().filter(c -> c == 'h').count();
    }
    int held = (int) Arrays.stream(slots).filter(s -> s != null).count();
    int outcomes = town.kicks.stream().mapToInt(k -> k.outcomes.size()).sum();
    int[] all = {town.rows.get(0).length(), town.rows.size(), town.faces, town.kicks.size(), town.takes, homes,
        tape.length(), past.size(), told.size(), held, outcomes};
    return what < 0 || what >= all.length ? NONE : all[what];
  }
}
