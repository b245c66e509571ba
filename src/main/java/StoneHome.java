import java.util.Arrays;

/** A stone that is kicked all the way home; the document's promises say what each call answers. */
public final class StoneHome {
  public static final int NONE = -1;

  private static final int NOT_NOW = -2;

  private static final int TAPE_ROOM = 2000;
  private static final int FED_BYTES = 20;
  private static final int TOKEN_ROOM = 400;

  private static final int ROW_ROOM = 4;
  private static final int LENGTH_ROOM = 8;
  private static final int SQUARE_ROOM = 32;
  private static final int FACE_ROOM = 3;
  private static final int KICK_ROOM = 4;
  private static final int OUTCOME_ROOM = 6;
  /** A WAY is an outcome of a kick, kick * OUTCOME_ROOM + outcome, or behind all of these what comes of a wait. */
  private static final int WAIT_WAY = 24;
  private static final int WAY_ROOM = 25;
  private static final int IF_ROOM = 4;
  private static final int PAREN_ROOM = 6;
  private static final int TOLD_ROOM = 5;
  private static final int UNDO_ROOM = 50;
  private static final int SLOT_ROOM = 3;

  /** A LIE is how it lies, a square and a face: square * FACE_ROOM + face. */
  private static final int LIE_ROOM = 96;
  /** One more than a text can tell, for what a life more would be worth. */
  private static final int LIVES_ROOM = 4;
  /** In place of a lie: it is lost. */
  private static final int LOST = -1;

  private static final int TAR = 0;
  private static final int PARKED = 3;
  private static final int GUTTER = 4;
  private static final int WALL = 5;
  private static final int AT_HOME = 6;

  private static final int ON_ITS_WAY = 0;
  private static final int CAME_HOME = 1;
  private static final int LOST_FOR_GOOD = 2;
  private static final int LIFE_LESS = 3;

  private static final int MOST_STEPS = 10;
  private static final int MOST_TURNS = 3;
  private static final int MOST_WAITS = 5;
  private static final int MOST_SECOND = 9999;

  private static final int SIXTHS = 6;
  private static final int[] SIXES = {1, 6, 36, 216, 1296, 7776, 46656, 279936, 1679616, 10077696, 60466176};

  private final byte[] tape = new byte[TAPE_ROOM];
  private int tapeSize = 0;
  private int faultPlace = NONE;
  private Street street = new Street();
  /** The next text is read into this one, so that a text with a fault changes nothing. */
  private Street spare = new Street();
  private final Reader reader = new Reader(tape, spare);
  private final Stone stone = new Stone();
  private final Past past = new Past();
  private final Stone[] slots = new Stone[SLOT_ROOM];
  private final Table table = new Table(street);
  private final Forecast forecast = new Forecast(table, street);
  private final Race race = new Race(table, street);
  private final Scratches scratches = new Scratches();

  public StoneHome() {
    for (int i = 0; i < slots.length; i++) {
      slots[i] = new Stone();
    }
    street.layAhead();
    begin();
  }

  public int feed(int a, int b, int c, int d, int e) {
    if (tapeSize + FED_BYTES > TAPE_ROOM) {
      return NONE;
    }
    putBytes(a);
    putBytes(b);
    putBytes(c);
    putBytes(d);
    putBytes(e);
    return tapeSize;
  }

  public int back(int n) {
    if (n < 0 || n > tapeSize) {
      return NONE;
    }
    tapeSize -= n;
    return tapeSize;
  }

  public int read() {
    int fault = reader.readText(spare, tapeSize);
    faultPlace = reader.placeOfFault();
    tapeSize = 0;
    if (fault == 0) {
      Street old = street;
      street = spare;
      spare = old;
      begin();
    }
    return fault;
  }

  public int place() {
    return faultPlace;
  }

  public int now(int what) {
    switch (what) {
      case 0:
        return stone.state == LOST_FOR_GOOD ? NOT_NOW : alongOf(stone.square);
      case 1:
        return stone.state == LOST_FOR_GOOD ? NOT_NOW : acrossOf(stone.square);
      case 2:
        return stone.side;
      case 3:
        return stone.lives;
      case 4:
        return stone.done;
      case 5:
        return stone.done * street.takes;
      case 6:
        return stone.touches;
      case 7:
        return stone.state;
      case 8:
        return stone.livesLost;
      default:
        return NONE;
    }
  }

  public int square(int along, int across) {
    return street.sortAt(along, across);
  }

  public int cars(int along, int across, int second) {
    if (street.sortAt(along, across) == NONE || second < 0 || second > MOST_SECOND) {
      return NONE;
    }
    return street.carsCome(squareOf(along, across), second) ? 1 : 0;
  }

  public int kick(int kick) {
    if (!street.hasKick(kick)) {
      return NONE;
    }
    if (!canBeKicked(kick)) {
      return NOT_NOW;
    }
    return comeBy(street.drawnWay(kick, stone.done));
  }

  public int waits() {
    if (stone.state != ON_ITS_WAY) {
      return NOT_NOW;
    }
    return comeBy(WAIT_WAY);
  }

  public boolean touch(int way) {
    int to = touched(way);
    if (to == NONE || stone.state != ON_ITS_WAY) {
      return false;
    }
    past.keep(stone);
    stone.touches++;
    settle(lieOf(to, stone.side));
    return true;
  }

  public boolean undo() {
    return past.takeBack(stone);
  }

  public int brings(int kick, int outcome, int what) {
    if (!street.hasOutcome(kick, outcome) || what < 0 || what > 3 || !canBeKicked(kick)) {
      return NONE;
    }
    int way = kick * OUTCOME_ROOM + outcome;
    int to = street.landing(stone.lie(), way, stone.done * street.takes);
    if (what == 3) {
      return to == LOST ? 1 : 0;
    }
    if (to == LOST && stone.lives == 0) {
      return NOT_NOW;
    }
    int lie = to == LOST ? stone.lie() : to;
    if (what == 2) {
      return lie % FACE_ROOM;
    }
    return what == 0 ? alongOf(lie / FACE_ROOM) : acrossOf(lie / FACE_ROOM);
  }

  public int home(int n, boolean below) {
    return isSpan(n) ? fraction(homeChance(n), n, below) : NONE;
  }

  public int best(int n) {
    if (!isSpan(n) || n == 0) {
      return NONE;
    }
    return stone.state == ON_ITS_WAY ? bestFrom(stone.square, n) : NOT_NOW;
  }

  public int sure(int n) {
    if (!isSpan(n)) {
      return NONE;
    }
    return homeChance(n) == sixesOf(n) ? 1 : 0;
  }

  public int least(int p) {
    if (p < 0 || p > 100) {
      return NONE;
    }
    for (int n = 0; n <= MOST_STEPS; n++) {
      if (100L * homeChance(n) >= (long) p * sixesOf(n)) {
        return n;
      }
    }
    return NOT_NOW;
  }

  public int rule(int kick, int n, boolean below) {
    if (!street.hasKick(kick) || !isSpan(n)) {
      return NONE;
    }
    return fraction(ruledChance(kick, n, NONE), n, below);
  }

  public int comes(int kick, int n, int along, int across, boolean below) {
    if (!street.hasKick(kick) || !isSpan(n) || street.sortAt(along, across) == NONE) {
      return NONE;
    }
    return fraction(ruledChance(kick, n, squareOf(along, across)), n, below);
  }

  public int worth(int n, boolean life, boolean below) {
    if (!isSpan(n)) {
      return NONE;
    }
    if (stone.state != ON_ITS_WAY) {
      return fraction(0, n, below);
    }
    int asItIs = homeChance(n);
    int other = life ? forecast.chance(stone.lie(), stone.lives + 1) : touchedChance(asItIs);
    return fraction(other - asItIs, n, below);
  }

  public int face(int n) {
    if (!isSpan(n)) {
      return NONE;
    }
    if (stone.state != ON_ITS_WAY) {
      return NOT_NOW;
    }
    forecast.look(stone.done, n, NONE, NONE);
    int likeliest = NONE;
    int found = 0;
    for (int side = 0; side < street.faces; side++) {
      int chance = forecast.chance(lieOf(stone.square, side), stone.lives);
      if (chance > likeliest) {
        likeliest = chance;
        found = side;
      }
    }
    return found;
  }

  public int side(int n) {
    if (!isSpan(n)) {
      return NONE;
    }
    if (stone.state != ON_ITS_WAY) {
      return NOT_NOW;
    }
    forecast.look(stone.done, n, NONE, NONE);
    int likeliest = NONE;
    int found = 0;
    for (int row = 0; row < street.rows; row++) {
      int there = squareOf(alongOf(stone.square), row);
      int chance = street.canLie(there) ? forecast.chance(lieOf(there, stone.side), stone.lives) : NONE;
      if (chance > likeliest) {
        likeliest = chance;
        found = row;
      }
    }
    return found;
  }

  public int goBy(int n) {
    if (!isSpan(n)) {
      return NONE;
    }
    if (stone.state != ON_ITS_WAY) {
      return NOT_NOW;
    }
    int likeliest = NONE;
    int found = 0;
    for (int waits = 0; waits <= MOST_WAITS; waits++) {
      int chance = chanceBehind(waits, n);
      if (chance > likeliest) {
        likeliest = chance;
        found = waits;
      }
    }
    return found;
  }

  public int plan(int n, int along, int across) {
    int sort = street.sortAt(along, across);
    if (!isSpan(n) || n == 0 || sort == NONE) {
      return NONE;
    }
    return sort <= PARKED ? bestFrom(squareOf(along, across), n) : NOT_NOW;
  }

  public int trap(int n) {
    if (!isSpan(n)) {
      return NONE;
    }
    forecast.look(stone.done, n, NONE, NONE);
    int traps = 0;
    for (int there = 0; there < SQUARE_ROOM; there++) {
      if (street.canLie(there) && isTrap(there)) {
        traps++;
      }
    }
    return traps;
  }

  public int first(int n, boolean below) {
    if (n < 1 || n > MOST_TURNS) {
      return NONE;
    }
    if (stone.state != ON_ITS_WAY) {
      return NOT_NOW;
    }
    int turns = 2 * n - 1;
    return fraction(race.chance(stone.done, turns, stone.lie(), street.friendLie()), turns, below);
  }

  public int can() {
    int bits = 0;
    for (int kick = 0; kick < street.kicks; kick++) {
      if (canBeKicked(kick)) {
        bits |= 1 << kick;
      }
    }
    return bits;
  }

  public int tell(int along, int across) {
    if (street.sortAt(along, across) == NONE) {
      return NONE;
    }
    return scratches.add(squareOf(along, across));
  }

  public int forget() {
    return scratches.clear();
  }

  public int fits(int k, int i) {
    if (!scratches.knows(k) || i < NONE) {
      return NONE;
    }
    scratches.weigh(street, k);
    return i == NONE ? scratches.howMany(k) : scratches.codeOf(k, i);
  }

  public int often(int k, int i) {
    if (!scratches.knows(k) || i < 0) {
      return NONE;
    }
    scratches.weigh(street, k);
    int code = scratches.codeOf(k, i);
    return code == NONE ? NONE : scratches.weight(k, code);
  }

  public boolean hold(int slot) {
    if (slot < 0 || slot >= SLOT_ROOM) {
      return false;
    }
    slots[slot].copyFrom(stone);
    slots[slot].isHeld = true;
    return true;
  }

  public boolean restore(int slot) {
    if (slot < 0 || slot >= SLOT_ROOM || !slots[slot].isHeld) {
      return false;
    }
    stone.copyFrom(slots[slot]);
    past.clear();
    return true;
  }

  public int count(int what) {
    switch (what) {
      case 0:
        return street.length;
      case 1:
        return street.rows;
      case 2:
        return street.faces;
      case 3:
        return street.kicks;
      case 4:
        return street.takes;
      case 5:
        return street.homeSquares();
      case 6:
        return tapeSize;
      case 7:
        return past.size;
      case 8:
        return scratches.told;
      case 9:
        return heldSlots();
      case 10:
        return street.allOutcomes();
      default:
        return NONE;
    }
  }

  /** All that a text which has been read sets back. */
  private void begin() {
    stone.beginOn(street);
    past.clear();
    scratches.clear();
    for (int i = 0; i < slots.length; i++) {
      slots[i].isHeld = false;
    }
    table.follow(street);
    forecast.follow(street);
    race.follow(street);
  }

  private void putBytes(int word) {
    for (int shift = 24; shift >= 0; shift -= 8) {
      if (tapeSize < tape.length) {
        tape[tapeSize] = (byte) (word >> shift);
        tapeSize++;
      }
    }
  }

  private boolean canBeKicked(int kick) {
    return stone.state == ON_ITS_WAY && street.canKickFrom(stone.square, kick);
  }

  private int comeBy(int way) {
    past.keep(stone);
    int to = street.landing(stone.lie(), way, stone.done * street.takes);
    stone.done++;
    return settle(to);
  }

  /** The stone comes to a lie, or is lost: what kick() answers for that. */
  private int settle(int to) {
    if (to == LOST) {
      return lose();
    }
    stone.square = to / FACE_ROOM;
    stone.side = to % FACE_ROOM;
    stone.state = street.sortOf(stone.square) == AT_HOME ? CAME_HOME : ON_ITS_WAY;
    return stone.state;
  }

  private int lose() {
    if (stone.lives == 0) {
      stone.state = LOST_FOR_GOOD;
      return LOST_FOR_GOOD;
    }
    stone.lives--;
    stone.livesLost++;
    return LIFE_LESS;
  }

  /** The square to which a touch lays it; NONE if it can be laid on none there. */
  private int touched(int way) {
    int along = alongOf(stone.square);
    int across = acrossOf(stone.square);
    switch (way) {
      case 0:
        along++;
        break;
      case 1:
        along--;
        break;
      case 2:
        across++;
        break;
      case 3:
        across--;
        break;
      default:
        return NONE;
    }
    if (street.sortAt(along, across) == NONE) {
      return NONE;
    }
    int to = squareOf(along, across);
    return street.canLie(to) ? to : NONE;
  }

  private int touchedChance(int untouched) {
    int likeliest = untouched;
    for (int way = 0; way < 4; way++) {
      int to = touched(way);
      if (to != NONE) {
        likeliest = Math.max(likeliest, forecast.chance(lieOf(to, stone.side), stone.lives));
      }
    }
    return likeliest;
  }

  private int homeChance(int n) {
    if (stone.state == LOST_FOR_GOOD) {
      return 0;
    }
    forecast.look(stone.done, n, NONE, NONE);
    return forecast.chance(stone.lie(), stone.lives);
  }

  private int ruledChance(int kick, int n, int goal) {
    if (stone.state == LOST_FOR_GOOD) {
      return 0;
    }
    forecast.look(stone.done, n, kick, goal);
    return forecast.chance(stone.lie(), stone.lives);
  }

  private int bestFrom(int square, int n) {
    forecast.look(stone.done, n, NONE, NONE);
    return forecast.bestAction(stone.done, lieOf(square, stone.side), stone.lives);
  }

  private int chanceBehind(int waits, int n) {
    int lives = stone.lives;
    for (int i = 1; i <= waits; i++) {
      if (street.carsCome(stone.square, (stone.done + i) * street.takes)) {
        lives--;
      }
    }
    if (lives < 0) {
      return 0;
    }
    forecast.look(stone.done + waits, n, NONE, NONE);
    return forecast.chance(stone.lie(), lives);
  }

  private boolean isTrap(int square) {
    for (int side = 0; side < street.faces; side++) {
      if (forecast.chance(lieOf(square, side), stone.lives) != 0) {
        return false;
      }
    }
    return true;
  }

  private int heldSlots() {
    int held = 0;
    for (int i = 0; i < slots.length; i++) {
      if (slots[i].isHeld) {
        held++;
      }
    }
    return held;
  }

  private static boolean isSpan(int n) {
    return n >= 0 && n <= MOST_STEPS;
  }

  private static int sixesOf(int n) {
    return n >= 0 && n < SIXES.length ? SIXES[n] : 1;
  }

  /** One side of the fraction: so many of all the sixths of n steps. */
  private static int fraction(int part, int n, boolean below) {
    int whole = sixesOf(n);
    int common = commonDivisor(whole, part);
    if (common == 0) {
      return 0;
    }
    return (below ? whole : part) / common;
  }

  private static int commonDivisor(int one, int other) {
    int a = one;
    int b = other;
    for (int i = 0; i < 64 && b != 0; i++) {
      int rest = a % b;
      a = b;
      b = rest;
    }
    return a;
  }

  private static int held(int value, int most) {
    return Math.max(-most, Math.min(most, value));
  }

  private static int squareOf(int along, int across) {
    return across * LENGTH_ROOM + along;
  }

  private static int alongOf(int square) {
    return square % LENGTH_ROOM;
  }

  private static int acrossOf(int square) {
    return square / LENGTH_ROOM;
  }

  private static int lieOf(int square, int side) {
    return square * FACE_ROOM + side;
  }

  /** What goes on: all that is undone, held and restored. */
  private static final class Stone {
    int square = 0;
    int side = 0;
    int lives = 0;
    int livesLost = 0;
    /** Kicks and waits so far; the second is that many times what each takes. */
    int done = 0;
    int touches = 0;
    int state = ON_ITS_WAY;
    boolean isHeld = false;

    int lie() {
      return lieOf(square, side);
    }

    void beginOn(Street street) {
      int lie = street.stoneLie();
      square = lie / FACE_ROOM;
      side = lie % FACE_ROOM;
      lives = street.lives;
      livesLost = 0;
      done = 0;
      touches = 0;
      state = street.sortOf(square) == AT_HOME ? CAME_HOME : ON_ITS_WAY;
    }

    void copyFrom(Stone other) {
      square = other.square;
      side = other.side;
      lives = other.lives;
      livesLost = other.livesLost;
      done = other.done;
      touches = other.touches;
      state = other.state;
    }
  }

  /** How it was ahead of each of the last things done, in a ring. */
  private static final class Past {
    private final Stone[] ring = new Stone[UNDO_ROOM];
    private int next = 0;
    int size = 0;

    Past() {
      for (int i = 0; i < ring.length; i++) {
        ring[i] = new Stone();
      }
    }

    void clear() {
      next = 0;
      size = 0;
    }

    void keep(Stone stone) {
      ring[next].copyFrom(stone);
      next = (next + 1) % UNDO_ROOM;
      size = Math.min(size + 1, UNDO_ROOM);
    }

    boolean takeBack(Stone stone) {
      if (size == 0) {
        return false;
      }
      next = (next + UNDO_ROOM - 1) % UNDO_ROOM;
      size--;
      stone.copyFrom(ring[next]);
      return true;
    }
  }

  /** The laws of a text, as steps that push numbers on a stack and join the upper two of them. */
  private static final class Laws {
    static final int DRIFT = 0;
    static final int RUNS = 1;
    static final int CARS = 2;

    static final int PUSH = 0;
    static final int LOAD = 1;
    static final int ADD = 2;
    static final int LESS = 3;
    static final int TIMES = 4;
    static final int DIVIDE = 5;
    /** Goes on at its operand unless the lower of the upper two is less. */
    static final int TEST = 6;
    static final int END = 7;

    /** Among the operators that wait: a parenthesis, behind which none is joined yet. */
    static final int OPEN = 8;

    private static final int OPERAND_SHIFT = 3;
    private static final int STEP_BITS = 7;
    private static final int STACK_ROOM = 32;

    private final int[] steps = new int[TOKEN_ROOM];
    private int size = 0;
    private final int[] starts = new int[3];
    /** Bits of the laws that look at the second. */
    private int timed = 0;
    private final int[] waiting = new int[STACK_ROOM];
    private int waitingSize = 0;
    private final int[] facts = new int[7];
    private final int[] stack = new int[STACK_ROOM];

    void clear() {
      size = 0;
      timed = 0;
      Arrays.fill(starts, NONE);
    }

    void start(int law) {
      if (law >= 0 && law < starts.length) {
        starts[law] = size;
        timed &= ~(1 << law);
        waitingSize = 0;
      }
    }

    /** Where the step stands. */
    int add(int step, int operand) {
      if (size < steps.length) {
        steps[size] = operand << OPERAND_SHIFT | step;
        size++;
      }
      return size - 1;
    }

    void markTimed(int law) {
      timed |= 1 << law;
    }

    /** An operator waits for its right side; those ahead of it that bind as much have theirs. */
    void addOperator(int step) {
      for (int i = 0; i < STACK_ROOM && lastWaiting() != OPEN && (lastWaiting() >= TIMES || step < TIMES); i++) {
        waitingSize--;
        add(waiting[waitingSize], 0);
      }
      push(step);
    }

    void close() {
      for (int i = 0; i < STACK_ROOM && lastWaiting() != OPEN; i++) {
        waitingSize--;
        add(waiting[waitingSize], 0);
      }
      waitingSize = Math.max(0, waitingSize - 1);
    }

    void push(int step) {
      if (waitingSize < STACK_ROOM) {
        waiting[waitingSize] = step;
        waitingSize++;
      }
    }

    private int lastWaiting() {
      return waitingSize > 0 ? waiting[waitingSize - 1] : OPEN;
    }

    /** The test that stands there goes on here. */
    void aim(int test) {
      if (test >= 0 && test < size) {
        steps[test] = size << OPERAND_SHIFT | TEST;
      }
    }

    boolean areTimed() {
      return timed != 0;
    }

    void setWhere(int along, int across, int side, int sort) {
      facts[0] = along;
      facts[1] = across;
      facts[2] = side;
      facts[3] = sort;
    }

    void setHow(int which, int hard, int second) {
      facts[4] = which;
      facts[5] = hard;
      facts[6] = second;
    }

    int value(int law) {
      int start = law >= 0 && law < starts.length ? starts[law] : NONE;
      if (start < 0) {
        return 0;
      }
      int top = 0;
      for (int at = start; at < size; at++) {
        int step = steps[at] & STEP_BITS;
        int operand = steps[at] >> OPERAND_SHIFT;
        if (step == END) {
          return stack[0];
        }
        if (step == PUSH || step == LOAD) {
          if (top >= STACK_ROOM) {
            return 0;
          }
          stack[top] = step == PUSH ? operand : factAt(operand);
          top++;
          continue;
        }
        if (top < 2 || step == DIVIDE && stack[top - 1] == 0) {
          return 0;
        }
        if (step == TEST) {
          top -= 2;
          at = stack[top] < stack[top + 1] ? at : Math.max(at, operand - 1);
        } else {
          top--;
          stack[top - 1] = joined(step, stack[top - 1], stack[top]);
        }
      }
      return 0;
    }

    private int factAt(int fact) {
      return fact >= 0 && fact < facts.length ? facts[fact] : 0;
    }

    private static int joined(int step, int a, int b) {
      switch (step) {
        case ADD:
          return a + b;
        case LESS:
          return a - b;
        case TIMES:
          return a * b;
        default:
          return b == 0 ? 0 : a / b;
      }
    }
  }

  /** What a text tells: the squares, the kicks, the laws and how all begins. */
  private static final class Street {
    private static final int LOT_WORD = 55;

    int length = 0;
    int rows = 0;
    /** NONE where there is no square. */
    private final int[] sorts = new int[SQUARE_ROOM];
    int faces = 1;
    int kicks = 0;
    final int[] outcomes = new int[KICK_ROOM];
    final int[] sixths = new int[WAY_ROOM];
    final int[] far = new int[WAY_ROOM];
    final int[] aside = new int[WAY_ROOM];
    final int[] turns = new int[WAY_ROOM];
    final Laws laws = new Laws();
    final int[] stoneSpot = new int[3];
    final int[] friendSpot = new int[3];
    int lives = 0;
    int takes = 5;
    int seed = 0;

    void clear() {
      length = 0;
      rows = 0;
      Arrays.fill(sorts, NONE);
      faces = 1;
      kicks = 0;
      sixths[WAIT_WAY] = SIXTHS;
      laws.clear();
      Arrays.fill(stoneSpot, 0);
      Arrays.fill(friendSpot, 0);
      lives = 0;
      takes = 5;
      seed = 0;
    }

    void layAhead() {
      clear();
      length = 2;
      rows = 1;
      sorts[0] = TAR;
      sorts[1] = AT_HOME;
      kicks = 1;
      outcomes[0] = 1;
      sixths[0] = SIXTHS;
      far[0] = 1;
    }

    void setSort(int along, int across, int sort) {
      if (along >= 0 && along < LENGTH_ROOM && across >= 0 && across < ROW_ROOM) {
        sorts[across * LENGTH_ROOM + along] = sort;
      }
    }

    int sortAt(int along, int across) {
      boolean there = along >= 0 && along < LENGTH_ROOM && across >= 0 && across < ROW_ROOM;
      return there ? sorts[across * LENGTH_ROOM + along] : NONE;
    }

    int sortOf(int square) {
      return square >= 0 && square < SQUARE_ROOM ? sorts[square] : NONE;
    }

    boolean canLie(int square) {
      int sort = sortOf(square);
      return sort != NONE && sort != GUTTER && sort != WALL;
    }

    boolean isHomeLie(int lie) {
      return sortOf(lie / FACE_ROOM) == AT_HOME;
    }

    boolean hasKick(int kick) {
      return kick >= 0 && kick < kicks;
    }

    boolean hasOutcome(int kick, int outcome) {
      return kick >= 0 && kick < kicks && outcome >= 0 && outcome < outcomes[kick];
    }

    boolean canKickFrom(int square, int kick) {
      if (kick < 0 || kick >= kicks || square < 0 || square >= SQUARE_ROOM || sorts[square] == NONE) {
        return false;
      }
      return sorts[square] < PARKED || sorts[square] == PARKED && outcomes[kick] == 1;
    }

    /** An ACTION is a kick, or a wait, which has the number behind the last kick's. */
    boolean canDoFrom(int square, int action) {
      return action == kicks || canKickFrom(square, action);
    }

    int firstWay(int action) {
      return action == kicks ? WAIT_WAY : action * OUTCOME_ROOM;
    }

    /** The way behind the action's last one. */
    int endOfWays(int action) {
      if (action < 0 || action >= kicks) {
        return WAIT_WAY + 1;
      }
      return action * OUTCOME_ROOM + outcomes[action];
    }

    int sixthsOf(int way) {
      return way >= 0 && way < WAY_ROOM ? sixths[way] : 0;
    }

    int stoneLie() {
      return lieOf(squareOf(stoneSpot[0], stoneSpot[1]), stoneSpot[2]);
    }

    int friendLie() {
      return lieOf(squareOf(friendSpot[0], friendSpot[1]), friendSpot[2]);
    }

    private boolean isSpot(int[] spot) {
      if (spot.length < 3 || spot[2] >= faces) {
        return false;
      }
      return sortAt(spot[0], spot[1]) != NONE && canLie(squareOf(spot[0], spot[1]));
    }

    /** It has rows and kicks, and both stones lie on it. */
    boolean isWhole() {
      return rows > 0 && kicks > 0 && isSpot(stoneSpot) && isSpot(friendSpot);
    }

    int homeSquares() {
      int homes = 0;
      for (int square = 0; square < SQUARE_ROOM; square++) {
        if (sortOf(square) == AT_HOME) {
          homes++;
        }
      }
      return homes;
    }

    int allOutcomes() {
      int all = 0;
      for (int kick = 0; kick < kicks && kick < KICK_ROOM; kick++) {
        all += outcomes[kick];
      }
      return all;
    }

    boolean carsCome(int square, int second) {
      laws.setWhere(alongOf(square), acrossOf(square), 0, sortOf(square));
      laws.setHow(NONE, 0, second);
      return laws.value(Laws.CARS) > 0;
    }

    /** How it lies behind what is done in that second and comes out that way; LOST if it is lost by it. */
    int landing(int lie, int way, int second) {
      int square = lie / FACE_ROOM;
      if (way == WAIT_WAY) {
        return carsCome(square, second + takes) ? LOST : lie;
      }
      if (way < 0 || way >= WAIT_WAY || faces < 1) {
        return LOST;
      }
      int side = lie % FACE_ROOM;
      laws.setWhere(alongOf(square), acrossOf(square), side, sortOf(square));
      laws.setHow(way / OUTCOME_ROOM, far[way], second);
      int along = alongOf(square) + far[way] + held(laws.value(Laws.RUNS), 4);
      int across = acrossOf(square) + aside[way] + held(laws.value(Laws.DRIFT), 2);
      int turned = (side + turns[way]) % faces;
      along = Math.max(0, Math.min(length - 1, along));
      int sort = sortAt(along, across);
      // At a wall it comes to no other square, so no cars can meet it there.
      if (sort == WALL) {
        return lieOf(square, turned);
      }
      if (sort == NONE || sort == GUTTER) {
        return LOST;
      }
      int to = squareOf(along, across);
      if (sort != AT_HOME && carsCome(to, second + takes)) {
        return LOST;
      }
      return lieOf(to, turned);
    }

    int drawnWay(int kick, int which) {
      int drawn = lotOfSix(which);
      int soFar = 0;
      int first = firstWay(kick);
      int end = endOfWays(kick);
      for (int way = first; way < end; way++) {
        soFar += sixthsOf(way);
        if (soFar > drawn) {
          return way;
        }
      }
      return first;
    }

    private int lotOfSix(int which) {
      int mixed = mix(mix(seed, LOT_WORD), which);
      return (mixed >>> 1) % SIXTHS;
    }

    private static int mix(int h, int word) {
      int grown = (h ^ word) * 1103515245 + 12345;
      return grown ^ grown >>> 15;
    }
  }

  /** The tokens of a text, up to the first that is none or one too many. */
  private static final class Tokens {
    static final int AT_END = 0;
    static final int NAME = 1;
    static final int WORD = 2;
    static final int INT = 3;
    static final int SIGN = 4;
    static final int NO_TOKEN = 5;

    /** Each word has a blank behind it; its place among them is its number. */
    private static final String WORDS = "row faces kick drift runs cars stone friend lives takes seed by turn if then else along across face sort which hard second ";
    private static final String SIGNS = ";=+-*/<()";
    private static final int NAME_ROOM = 8;
    private static final int DIGIT_ROOM = 4;
    private static final int LETTER_BITS = 5;
    /** All that a text may have, and what comes behind them. */
    private static final int KEPT = TOKEN_ROOM + 1;

    final int[] kinds = new int[KEPT];
    final int[] places = new int[KEPT];
    /** Of an int what it tells, of a word which one, of a name its length, of a sign its byte. */
    final int[] numbers = new int[KEPT];
    private final byte[] text;
    private int size = 0;
    /** The byte behind the latest token, that token's sort and number. */
    private int at = 0;
    private int kind = AT_END;
    private int number = 0;

    Tokens(byte[] tape) {
      text = tape;
    }

    void scan(int length) {
      size = Math.max(0, Math.min(length, text.length));
      at = 0;
      for (int i = 0; i < KEPT; i++) {
        skipBlanks();
        places[i] = at;
        scanOne();
        kinds[i] = kind;
        numbers[i] = number;
      }
    }

    char letterAt(int place) {
      return place >= 0 && place < size ? (char) text[place] : ' ';
    }

    /** So many letters from there on, five bits each. */
    long nameAt(int place, int letters) {
      long name = 0;
      for (int i = 0; i < NAME_ROOM && i < letters; i++) {
        name = name << LETTER_BITS | letterAt(place + i) - 'a' + 1;
      }
      return name;
    }

    private void skipBlanks() {
      while (at < size && isBlank(text[at])) {
        at++;
      }
    }

    private void scanOne() {
      number = 0;
      if (at >= size) {
        kind = AT_END;
      } else if (isLetter(text[at])) {
        scanWord();
      } else if (isDigit(text[at])) {
        scanInt();
      } else {
        number = text[at];
        kind = number > 0 && SIGNS.indexOf((char) number) >= 0 ? SIGN : NO_TOKEN;
        at++;
      }
    }

    private void scanWord() {
      int from = at;
      while (at < size && isLetter(text[at])) {
        at++;
      }
      int word = wordNumber(from);
      number = word == NONE ? at - from : word;
      if (at - from > NAME_ROOM) {
        kind = NO_TOKEN;
      } else {
        kind = word == NONE ? NAME : WORD;
      }
    }

    private void scanInt() {
      int from = at;
      while (at < size && isDigit(text[at])) {
        number = number * 10 + text[at] - '0';
        at++;
      }
      kind = at - from > DIGIT_ROOM ? NO_TOKEN : INT;
    }

    /** Which word the letters from there to here are; NONE if none. */
    private int wordNumber(int from) {
      int word = 0;
      int like = from;
      boolean alike = true;
      for (int i = 0; i < WORDS.length(); i++) {
        char letter = WORDS.charAt(i);
        if (letter != ' ') {
          alike = alike && like < at && like < size && text[like] == letter;
          like++;
        } else if (alike && like == at) {
          return word;
        } else {
          word++;
          like = from;
          alike = true;
        }
      }
      return NONE;
    }

    private static boolean isBlank(int sign) {
      return sign == 9 || sign == 10 || sign == 13 || sign == 32;
    }

    private static boolean isLetter(int sign) {
      return sign >= 'a' && sign <= 'z';
    }

    private static boolean isDigit(int sign) {
      return sign >= '0' && sign <= '9';
    }
  }

  /** Reads a text into a street, and finds its fault. */
  private static final class Reader {
    private static final String SORTS = "tcspgwh";

    /** The words' numbers. */
    private static final int ROW = 0;
    private static final int FACES = 1;
    private static final int KICK = 2;
    private static final int DRIFT = 3;
    private static final int RUNS = 4;
    private static final int CARS = 5;
    private static final int STONE = 6;
    private static final int FRIEND = 7;
    private static final int LIVES = 8;
    private static final int TAKES = 9;
    private static final int SEED = 10;
    private static final int BY = 11;
    private static final int TURN = 12;
    private static final int IF = 13;
    private static final int THEN = 14;
    private static final int ELSE = 15;
    private static final int FIRST_VAR = 16;
    private static final int SECOND_VAR = 22;

    private static final int SYNTAX = 1;
    private static final int ROOM = 2;
    private static final int TWICE = 3;
    private static final int WRONG = 5;
    private static final int STREET = 6;
    private static final int WHERE = 7;

    private final Tokens tokens;
    private Street street;
    /** How many tokens are taken, and of the next one its sort, its place, its number. */
    private int taken = 0;
    private int kind = Tokens.AT_END;
    private int from = 0;
    private int number = 0;
    private int law = 0;
    private final long[] kickNames = new long[KICK_ROOM];
    private int fault = 0;
    private int faultAt = NONE;
    /** The first of the faults that count only if there is neither SYNTAX nor ROOM. */
    private int lateFault = 0;
    private int lateAt = NONE;

    Reader(byte[] tape, Street wanted) {
      tokens = new Tokens(tape);
      street = wanted;
    }

    int readText(Street wanted, int length) {
      street = wanted;
      street.clear();
      fault = 0;
      faultAt = NONE;
      lateFault = 0;
      lateAt = NONE;
      tokens.scan(length);
      taken = NONE;
      take();
      for (int i = 0; i <= TOKEN_ROOM && fault == 0 && kind != Tokens.AT_END; i++) {
        takeTell();
      }
      judge(length);
      return fault;
    }

    int placeOfFault() {
      return faultAt;
    }

    private void judge(int length) {
      if (fault == 0 && lateFault != 0) {
        fault = lateFault;
        faultAt = lateAt;
      }
      if (fault == 0 && !street.isWhole()) {
        fault = WHERE;
        faultAt = length;
      }
    }

    private void takeTell() {
      switch (kind == Tokens.WORD ? number : NONE) {
        case ROW:
          takeRow();
          break;
        case KICK:
          takeKick();
          break;
        case DRIFT:
          takeLaw(Laws.DRIFT);
          break;
        case RUNS:
          takeLaw(Laws.RUNS);
          break;
        case CARS:
          takeLaw(Laws.CARS);
          break;
        case STONE:
          takeSpot(street.stoneSpot);
          break;
        case FRIEND:
          takeSpot(street.friendSpot);
          break;
        default:
          takeSetting();
      }
      takeSign(';');
    }

    private void takeSetting() {
      switch (kind == Tokens.WORD ? number : NONE) {
        case FACES:
          take();
          street.faces = takeInt(1, FACE_ROOM);
          break;
        case LIVES:
          take();
          street.lives = takeInt(0, 2);
          break;
        case TAKES:
          take();
          street.takes = takeInt(1, 99);
          break;
        case SEED:
          take();
          street.seed = takeInt(0, 9999);
          break;
        default:
          fail(SYNTAX);
      }
    }

    private void takeRow() {
      if (street.rows >= ROW_ROOM) {
        fail(ROOM);
        return;
      }
      take();
      if (kind != Tokens.NAME) {
        fail(SYNTAX);
        return;
      }
      if (street.rows == 0) {
        street.length = number;
      }
      if (number != street.length || !layRow()) {
        failLate(STREET, from);
      }
      street.rows++;
      take();
    }

    private boolean layRow() {
      boolean good = true;
      for (int along = 0; along < number; along++) {
        int sort = SORTS.indexOf(tokens.letterAt(from + along));
        good = good && sort >= 0;
        street.setSort(along, street.rows, sort);
      }
      return good;
    }

    private void takeKick() {
      int kick = street.kicks;
      if (kick < 0 || kick >= KICK_ROOM) {
        fail(ROOM);
        return;
      }
      take();
      if (kind != Tokens.NAME) {
        fail(SYNTAX);
        return;
      }
      int at = from;
      long name = tokens.nameAt(from, number);
      if (isToldKick(name)) {
        failLate(TWICE, at);
      }
      kickNames[kick] = name;
      take();
      if (takeOutcomes(kick) != SIXTHS) {
        failLate(WRONG, at);
      }
      street.kicks++;
    }

    private boolean isToldKick(long name) {
      for (int kick = 0; kick < street.kicks && kick < kickNames.length; kick++) {
        if (kickNames[kick] == name) {
          return true;
        }
      }
      return false;
    }

    /** How many sixths the kick's outcomes are together. */
    private int takeOutcomes(int kick) {
      int together = 0;
      int outcomes = 0;
      for (int i = 0; i <= OUTCOME_ROOM && fault == 0 && kind == Tokens.INT; i++) {
        if (outcomes == OUTCOME_ROOM) {
          fail(ROOM);
        } else {
          together += takeOutcome(kick * OUTCOME_ROOM + outcomes);
          outcomes++;
        }
      }
      street.outcomes[kick] = outcomes;
      return together;
    }

    private int takeOutcome(int told) {
      int sixths = takeInt(1, SIXTHS);
      takeWord(BY);
      int far = takeInt(0, 4);
      boolean back = isSign('-');
      if (back) {
        take();
      }
      int aside = takeInt(0, 2);
      int turns = 0;
      if (isWord(TURN)) {
        take();
        turns = takeInt(0, 2);
      }
      if (told >= 0 && told < WAIT_WAY) {
        street.sixths[told] = sixths;
        street.far[told] = far;
        street.aside[told] = back ? -aside : aside;
        street.turns[told] = turns;
      }
      return sixths;
    }

    private void takeSpot(int[] spot) {
      take();
      for (int i = 0; i < spot.length; i++) {
        spot[i] = takeInt(0, 9);
      }
    }

    private void takeLaw(int which) {
      law = which;
      take();
      takeSign('=');
      street.laws.start(law);
      for (int ifs = 0; ifs <= IF_ROOM && fault == 0 && isWord(IF); ifs++) {
        if (ifs == IF_ROOM) {
          fail(ROOM);
        } else {
          takeBranch();
        }
      }
      takeFormula();
      street.laws.add(Laws.END, 0);
    }

    private void takeBranch() {
      take();
      takeFormula();
      takeSign('<');
      takeFormula();
      int test = street.laws.add(Laws.TEST, 0);
      takeWord(THEN);
      takeFormula();
      takeWord(ELSE);
      street.laws.add(Laws.END, 0);
      street.laws.aim(test);
    }

    /** Units and operators in turn; the whole of it is as if between parentheses. */
    private void takeFormula() {
      int depth = 0;
      boolean wantsUnit = true;
      street.laws.push(Laws.OPEN);
      for (int i = 0; i <= TOKEN_ROOM && fault == 0; i++) {
        int operator = operatorNext();
        if (wantsUnit && isSign('(')) {
          depth++;
          takeOpening(depth);
        } else if (wantsUnit) {
          takeUnit();
          wantsUnit = false;
        } else if (depth > 0 && isSign(')')) {
          depth--;
          street.laws.close();
          take();
        } else if (operator != NONE) {
          street.laws.addOperator(operator);
          take();
          wantsUnit = true;
        } else {
          break;
        }
      }
      if (depth > 0) {
        fail(SYNTAX);
      }
      street.laws.close();
    }

    private void takeOpening(int depth) {
      if (depth > PAREN_ROOM) {
        fail(ROOM);
      } else {
        street.laws.push(Laws.OPEN);
        take();
      }
    }

    private void takeUnit() {
      if (kind == Tokens.INT) {
        street.laws.add(Laws.PUSH, number);
        take();
      } else if (kind == Tokens.WORD && number >= FIRST_VAR && number <= SECOND_VAR) {
        street.laws.add(Laws.LOAD, number - FIRST_VAR);
        if (number == SECOND_VAR) {
          street.laws.markTimed(law);
        }
        take();
      } else {
        fail(SYNTAX);
      }
    }

    private int operatorNext() {
      switch (kind == Tokens.SIGN ? number : NONE) {
        case '+':
          return Laws.ADD;
        case '-':
          return Laws.LESS;
        case '*':
          return Laws.TIMES;
        case '/':
          return Laws.DIVIDE;
        default:
          return NONE;
      }
    }

    private int takeInt(int least, int most) {
      if (kind != Tokens.INT) {
        fail(SYNTAX);
        return least;
      }
      int value = number;
      if (value < least || value > most) {
        failLate(WRONG, from);
      }
      take();
      return value;
    }

    private void takeWord(int word) {
      if (isWord(word)) {
        take();
      } else {
        fail(SYNTAX);
      }
    }

    private void takeSign(char sign) {
      if (isSign(sign)) {
        take();
      } else {
        fail(SYNTAX);
      }
    }

    private boolean isWord(int word) {
      return kind == Tokens.WORD && number == word;
    }

    private boolean isSign(char sign) {
      return kind == Tokens.SIGN && number == sign;
    }

    /** Only what a text may go on with is taken, so a token too many that is also SYNTAX has been told as that. */
    private void take() {
      if (fault == 0) {
        taken++;
        if (taken > TOKEN_ROOM || taken < 0) {
          fault = ROOM;
          faultAt = from;
        } else {
          kind = tokens.kinds[taken];
          from = tokens.places[taken];
          number = tokens.numbers[taken];
        }
      }
    }

    private void fail(int which) {
      if (fault == 0) {
        fault = which;
        faultAt = from;
      }
    }

    private void failLate(int which, int at) {
      if (lateFault == 0 || at < lateAt || at == lateAt && which < lateFault) {
        lateFault = which;
        lateAt = at;
      }
    }
  }

  /** Where each way brings it from each lie, by steps: a step is how many kicks and waits came ahead of it. */
  private static final class Table {
    /** More than any forecast goes ahead, so that it meets each of its steps once. */
    private static final int KEPT_STEPS = 16;

    private Street street;
    /** The rows come as they are needed: where no law looks at the second, one does for all steps. */
    private final int[][] rows = new int[KEPT_STEPS][];
    private final int[] steps = new int[KEPT_STEPS];
    private int[] landings = new int[LIE_ROOM * WAY_ROOM];
    /** Where it can be kicked from, then those at home. */
    final int[] lies = new int[LIE_ROOM];
    int openLies = 0;
    int allLies = 0;

    Table(Street wanted) {
      street = wanted;
      rows[0] = landings;
    }

    void follow(Street wanted) {
      street = wanted;
      Arrays.fill(steps, NONE);
      allLies = 0;
      listLies(false);
      openLies = allLies;
      listLies(true);
    }

    private void listLies(boolean home) {
      for (int lie = 0; lie < LIE_ROOM; lie++) {
        if (lie % FACE_ROOM < street.faces && street.canLie(lie / FACE_ROOM) && street.isHomeLie(lie) == home) {
          lies[allLies] = lie;
          allLies++;
        }
      }
    }

    int stepThatCounts(int wanted) {
      return street.laws.areTimed() ? wanted : 0;
    }

    void turnTo(int wanted) {
      int step = stepThatCounts(wanted);
      int at = step % KEPT_STEPS;
      if (at < 0) {
        return;
      }
      if (rows[at] == null) {
        rows[at] = new int[LIE_ROOM * WAY_ROOM];
      }
      landings = rows[at];
      int missing = steps[at] == step ? 0 : openLies;
      steps[at] = step;
      for (int i = 0; i < missing; i++) {
        int lie = lies[i];
        for (int action = 0; action <= street.kicks; action++) {
          int end = street.canDoFrom(lie / FACE_ROOM, action) ? street.endOfWays(action) : 0;
          for (int way = street.firstWay(action); way < end; way++) {
            landings[lie * WAY_ROOM + way] = street.landing(lie, way, step * street.takes);
          }
        }
      }
    }

    int landing(int lie, int way) {
      int at = lie * WAY_ROOM + way;
      return at >= 0 && at < landings.length ? landings[at] : LOST;
    }
  }

  /** How likely each lie leads where it should, in the sixths of all the steps that are left, from the last one back. */
  private static final class Forecast {
    private final Table table;
    private Street street;
    private int[] chances = new int[LIE_ROOM * LIVES_ROOM];
    /** The same for a step less, a step later. */
    private int[] later = new int[LIE_ROOM * LIVES_ROOM];
    private boolean isReady = false;
    private int readyStep = 0;
    private int readySteps = 0;
    private int readyRule = NONE;
    private int readyGoal = NONE;

    Forecast(Table wantedTable, Street wanted) {
      table = wantedTable;
      street = wanted;
    }

    void follow(Street wanted) {
      street = wanted;
      isReady = false;
    }

    /** rule: the kick that is always done, NONE for the likeliest; goal: a square, NONE for home. */
    void look(int step, int n, int rule, int goal) {
      int counts = table.stepThatCounts(step);
      if (isReady && readyStep == counts && readySteps == n && readyRule == rule && readyGoal == goal) {
        return;
      }
      isReady = true;
      readyStep = counts;
      readySteps = n;
      readyRule = rule;
      readyGoal = goal;
      for (int left = 0; left <= n; left++) {
        swap();
        if (left > 0) {
          table.turnTo(step + n - left);
        }
        fillLayer(left);
      }
    }

    int chance(int lie, int lives) {
      int at = placeFor(lie, lives);
      return at == NONE ? 0 : chances[at];
    }

    /** The first of the likeliest things to be done there, at the step at which the latest look() began. */
    int bestAction(int step, int lie, int lives) {
      table.turnTo(step);
      int likeliest = NONE;
      int found = street.kicks;
      for (int action = 0; action <= street.kicks; action++) {
        int chance = chanceBy(action, lie, lives);
        if (chance > likeliest) {
          likeliest = chance;
          found = action;
        }
      }
      return found;
    }

    private void swap() {
      int[] old = later;
      later = chances;
      chances = old;
    }

    private void fillLayer(int left) {
      int mostLives = Math.min(street.lives + 1, LIVES_ROOM - 1);
      for (int i = 0; i < table.allLies && i < LIE_ROOM; i++) {
        int lie = table.lies[i];
        boolean open = i < table.openLies && left > 0;
        for (int lives = 0; lives <= mostLives; lives++) {
          chances[lie * LIVES_ROOM + lives] = open ? chanceThere(lie, lives) : chanceAtRest(lie, left);
        }
      }
    }

    private int chanceAtRest(int lie, int left) {
      boolean there = readyGoal == NONE ? street.isHomeLie(lie) : lie / FACE_ROOM == readyGoal;
      return there ? sixesOf(left) : 0;
    }

    private int chanceThere(int lie, int lives) {
      if (readyRule != NONE) {
        boolean can = street.canKickFrom(lie / FACE_ROOM, readyRule);
        return chanceBy(can ? readyRule : street.kicks, lie, lives);
      }
      int likeliest = 0;
      for (int action = 0; action <= street.kicks; action++) {
        likeliest = Math.max(likeliest, chanceBy(action, lie, lives));
      }
      return likeliest;
    }

    /** NONE if it cannot be done there. */
    private int chanceBy(int action, int lie, int lives) {
      if (!street.canDoFrom(lie / FACE_ROOM, action)) {
        return NONE;
      }
      int lost = laterChance(lie, lives - 1);
      int sum = 0;
      int end = street.endOfWays(action);
      for (int way = street.firstWay(action); way < end; way++) {
        int to = table.landing(lie, way);
        sum += street.sixthsOf(way) * (to == LOST ? lost : laterChance(to, lives));
      }
      return sum;
    }

    /** Without lives (below 0) it is lost for good. */
    private int laterChance(int lie, int lives) {
      int at = placeFor(lie, lives);
      return at == NONE ? 0 : later[at];
    }

    private static int placeFor(int lie, int lives) {
      boolean there = lie >= 0 && lie < LIE_ROOM && lives >= 0 && lives < LIVES_ROOM;
      return there ? lie * LIVES_ROOM + lives : NONE;
    }
  }

  /** Two by turns: how likely mine is home ahead of his, for each lie of mine and each of his, from the last turn back. */
  private static final class Race {
    private static final int HIS_LOST = LIE_ROOM;
    private static final int HIS_ROOM = LIE_ROOM + 1;

    private final Table table;
    private Street street;
    private final int[] odds = new int[LIE_ROOM * HIS_ROOM];
    /** What stood in the line that is being filled: the odds a turn later. */
    private final int[] line = new int[HIS_ROOM];
    /** By lies: behind how many of its own turns a stone may first lie there. Others need no odds. */
    private final int[] mySoonest = new int[LIE_ROOM];
    private final int[] hisSoonest = new int[LIE_ROOM];

    Race(Table wantedTable, Street wanted) {
      table = wantedTable;
      street = wanted;
    }

    void follow(Street wanted) {
      street = wanted;
    }

    /** In the sixths of all the turns, of which the first one and the last one are mine. */
    int chance(int step, int turns, int mine, int his) {
      if (street.isHomeLie(his) || mine < 0 || mine >= LIE_ROOM || his < 0 || his >= LIE_ROOM) {
        return 0;
      }
      reach(mySoonest, mine, step, turns / 2);
      reach(hisSoonest, his, step + 1, turns / 2);
      for (int left = 0; left < turns; left++) {
        int turn = turns - 1 - left;
        table.turnTo(step + turn);
        if (turn % 2 == 0) {
          takeMyTurn(turn / 2, left);
        } else {
          takeHisTurn(turn / 2);
        }
      }
      return odds[mine * HIS_ROOM + his];
    }

    private void reach(int[] soonest, int start, int step, int turns) {
      Arrays.fill(soonest, MOST_TURNS);
      soonest[start] = 0;
      for (int turn = 0; turn < turns; turn++) {
        table.turnTo(step + 2 * turn);
        for (int i = 0; i < table.openLies; i++) {
          int lie = table.lies[i];
          for (int action = 0; action <= street.kicks && soonest[lie] <= turn; action++) {
            reachBy(action, lie, soonest, turn + 1);
          }
        }
      }
    }

    private void reachBy(int action, int lie, int[] soonest, int turns) {
      int end = street.canDoFrom(lie / FACE_ROOM, action) ? street.endOfWays(action) : 0;
      for (int way = street.firstWay(action); way < end; way++) {
        int to = table.landing(lie, way);
        if (to >= 0 && to < soonest.length) {
          soonest[to] = Math.min(soonest[to], turns);
        }
      }
    }

    /** Each has had so many turns; behind the last of mine it is too late. */
    private void takeMyTurn(int turns, int left) {
      for (int i = 0; i <= table.openLies; i++) {
        int his = i < table.openLies ? table.lies[i] : HIS_LOST;
        if (his == HIS_LOST || hisSoonest[his] <= turns) {
          for (int j = 0; j < table.openLies; j++) {
            line[table.lies[j]] = left == 0 ? 0 : odds[table.lies[j] * HIS_ROOM + his];
          }
          for (int j = 0; j < table.openLies; j++) {
            if (mySoonest[table.lies[j]] <= turns) {
              odds[table.lies[j] * HIS_ROOM + his] = myBest(table.lies[j], sixesOf(left));
            }
          }
        }
      }
    }

    /** He has had so many turns, and I one more. */
    private void takeHisTurn(int turns) {
      for (int i = 0; i < table.openLies; i++) {
        int mine = table.lies[i];
        if (mySoonest[mine] <= turns + 1) {
          System.arraycopy(odds, mine * HIS_ROOM, line, 0, HIS_ROOM);
          for (int j = 0; j < table.openLies; j++) {
            if (hisSoonest[table.lies[j]] <= turns) {
              odds[mine * HIS_ROOM + table.lies[j]] = hisBest(table.lies[j]);
            }
          }
          odds[mine * HIS_ROOM + HIS_LOST] = SIXTHS * line[HIS_LOST];
        }
      }
    }

    private int myBest(int mine, int whole) {
      int most = chanceBy(street.kicks, mine, whole, 0);
      for (int kick = 0; kick < street.kicks; kick++) {
        if (street.canKickFrom(mine / FACE_ROOM, kick)) {
          most = Math.max(most, chanceBy(kick, mine, whole, 0));
        }
      }
      return most;
    }

    private int hisBest(int his) {
      int least = chanceBy(street.kicks, his, 0, line[HIS_LOST]);
      for (int kick = 0; kick < street.kicks; kick++) {
        if (street.canKickFrom(his / FACE_ROOM, kick)) {
          least = Math.min(least, chanceBy(kick, his, 0, line[HIS_LOST]));
        }
      }
      return least;
    }

    /** atHome, lost: the odds if the stone that is kicked comes home, or is lost. */
    private int chanceBy(int action, int lie, int atHome, int lost) {
      int sum = 0;
      int end = street.endOfWays(action);
      for (int way = street.firstWay(action); way < end; way++) {
        int to = table.landing(lie, way);
        int chance = lost;
        if (to >= 0 && to < LIE_ROOM) {
          chance = street.isHomeLie(to) ? atHome : line[to];
        }
        sum += street.sixthsOf(way) * chance;
      }
      return sum;
    }
  }

  /** The squares that were told, and the rows of kicks that may have left it there. */
  private static final class Scratches {
    private static final int CODE_BITS = 2;
    private static final int CODE_MASK = 3;
    private static final int PAIRS = FACE_ROOM * FACE_ROOM;

    private final int[] squares = new int[TOLD_ROOM];
    int told = 0;
    /** By the place in the row, the kick, the face ahead of it and the face behind it: of 6, how many. */
    private final int[] ways = new int[TOLD_ROOM * KICK_ROOM * PAIRS];
    private int kicks = 0;
    private int startSide = 0;
    private final int[] sides = new int[FACE_ROOM];
    private final int[] sidesBehind = new int[FACE_ROOM];

    int clear() {
      int were = told;
      told = 0;
      return were;
    }

    int add(int square) {
      if (told >= TOLD_ROOM) {
        return NONE;
      }
      squares[told] = square;
      told++;
      return told - 1;
    }

    boolean knows(int k) {
      return k >= 0 && k <= told;
    }

    /** Each square is told, so a kick's ways depend on the faces alone. */
    void weigh(Street street, int k) {
      kicks = street.kicks;
      startSide = street.stoneLie() % FACE_ROOM;
      Arrays.fill(ways, 0);
      for (int place = 0; place < k && place < TOLD_ROOM; place++) {
        int square = place == 0 ? street.stoneLie() / FACE_ROOM : squares[place - 1];
        for (int kick = 0; kick < kicks; kick++) {
          if (street.canKickFrom(square, kick)) {
            weighKick(street, place, square, kick);
          }
        }
      }
    }

    private void weighKick(Street street, int place, int square, int kick) {
      int end = street.endOfWays(kick);
      for (int side = 0; side < street.faces; side++) {
        for (int way = street.firstWay(kick); way < end; way++) {
          int to = street.landing(lieOf(square, side), way, place * street.takes);
          if (to != LOST && to / FACE_ROOM == squares[place]) {
            int at = placeFor(place, kick, side, to % FACE_ROOM);
            ways[at] += street.sixthsOf(way);
          }
        }
      }
    }

    int howMany(int k) {
      int fitting = 0;
      for (int code = 0; code < 1 << CODE_BITS * k; code++) {
        if (weight(k, code) > 0) {
          fitting++;
        }
      }
      return fitting;
    }

    /** The i-th row of kicks that fits; NONE if there are not so many. */
    int codeOf(int k, int i) {
      int fitting = 0;
      for (int code = 0; code < 1 << CODE_BITS * k; code++) {
        if (weight(k, code) > 0) {
          if (fitting == i) {
            return code;
          }
          fitting++;
        }
      }
      return NONE;
    }

    /** Of 6 by itself, k times, how many by that row of kicks. */
    int weight(int k, int code) {
      Arrays.fill(sides, 0);
      sides[startSide] = 1;
      int all = 1;
      for (int place = 0; place < k && place < TOLD_ROOM && all > 0; place++) {
        int kick = code >> CODE_BITS * (k - 1 - place) & CODE_MASK;
        all = kick < kicks ? pass(place, kick) : 0;
      }
      return all;
    }

    /** From how many ways with each face to how many behind that kick; how many they are in all. */
    private int pass(int place, int kick) {
      int all = 0;
      Arrays.fill(sidesBehind, 0);
      for (int side = 0; side < FACE_ROOM; side++) {
        for (int behind = 0; behind < FACE_ROOM; behind++) {
          int more = sides[side] * ways[placeFor(place, kick, side, behind)];
          sidesBehind[behind] += more;
          all += more;
        }
      }
      System.arraycopy(sidesBehind, 0, sides, 0, FACE_ROOM);
      return all;
    }

    private static int placeFor(int place, int kick, int side, int behind) {
      return (place * KICK_ROOM + kick) * PAIRS + side * FACE_ROOM + behind;
    }
  }
}
