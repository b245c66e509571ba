import java.util.function.Consumer;

/** Terms, IV, and the promises 27 to 34: which kicks can be, what is told, held, counted. */
final class KeptBounds {
  private static final String TERMS = "Terms";
  private static final String BASE = "row th;kick k 6 by 1 0;";
  private static final int[] FAR_OFF = {Integer.MIN_VALUE, -100000, 100000, Integer.MAX_VALUE};

  private final Bounds b;

  KeptBounds(Bounds b) {
    this.b = b;
  }

  void look() {
    can();
    toldFiveAtMostInOrder();
    tellItsNumber();
    tellNoneAndNothingHappens();
    forget();
    fitsHowMany();
    fitsWhich();
    fitsAsKnownByK();
    fitsNoneForNoSuchOnes();
    oftenOf6ByItself();
    oftenByTheIth();
    oftenNoneForNoSuchOnes();
    holdInASlot();
    holdFalseForNoSuchOne();
    restoreGoesOn();
    restoreFalseAndNothingHappens();
    countEach();
    countNoneForOthers();
  }

  private void can() {
    b.says("Promise 27", "How many KICKS can be as it lies (bits); 0: HOME, LOST.");
    StringBuilder kicks = new StringBuilder();
    for (int n = 1; n <= 4; n++) {
      kicks.append("kick ").append((char) ('a' + n)).append(n % 2 == 0 ? " 6 by 1 0;" : " 3 by 1 0 3 by 1 0;");
      b.due("all of " + n, b.on("row th;" + kicks).can(), (1 << n) - 1);
    }
    b.due("by a car that stands", b.on("row ph;" + kicks).can(), 10);
    b.due("none by a car that stands", b.on("row ph;kick a 3 by 1 0 3 by 1 0;").can(), 0);
    b.due("can() in the scene", Scenes.of(Scenes::parked).can(), 5);
    b.refusedWhenOver("can()", StoneHome::can, 0);
  }

  private void toldFiveAtMostInOrder() {
    b.says(TERMS, "TOLD: on which SQUARE it lay behind its i-th KICK from the text's STONE on, one after the other, nothing else done,"
        + " 5 at most, in order; KNOWN by k: the first k.");
    StoneHome x = b.on("row ttttttth;kick k 6 by 1 0;");
    for (int i = 1; i <= 5; i++) {
      b.due("tell", x.tell(i, 0), i - 1);
      for (int k = 0; k <= i; k++) {
        b.due("known by " + k + " of " + i, x.fits(k, -1), 1);
      }
      b.due("known by more than " + i, x.fits(i + 1, -1), -1);
    }
    StoneHome order = b.on("row ttttttth;kick k 6 by 1 0;");
    order.tell(2, 0);
    order.tell(1, 0);
    b.due("not in order", order.fits(1, -1), 0);
    b.due("not in order", order.fits(2, -1), 0);
    b.due("none are known", order.fits(0, -1), 1);
  }

  private void tellItsNumber() {
    b.says("Promise 28", "It is TOLD: its number;");
    StoneHome all = b.on("row tgwh;row cspt;kick k 6 by 1 0;");
    b.due("tar", all.tell(0, 0), 0);
    b.due("a gutter", all.tell(1, 0), 1);
    b.due("a wall", all.tell(2, 0), 2);
    b.due("home", all.tell(3, 0), 3);
    b.due("a car", all.tell(2, 1), 4);
  }

  private void tellNoneAndNothingHappens() {
    b.says("Promise 28", "NONE, and nothing happens: 5 are there, no such SQUARE.");
    for (int scene = 0; scene < Scenes.ALL.size(); scene++) {
      Consumer<StoneHome> with = Scenes.ALL.get(scene);
      b.refused("a 6th", y -> {
        with.accept(y);
        while (y.count(8) < 5) {
          y.tell(0, 0);
        }
      }, y -> y.tell(1, 0), -1);
    }
    b.refusedAlways("tell(-1, 0)", y -> y.tell(-1, 0), -1);
    b.refusedAlways("tell(0, -1)", y -> y.tell(0, -1), -1);
    b.refusedAlways("tell(6, 0)", y -> y.tell(6, 0), -1);
    b.refusedAlways("tell(0, 2)", y -> y.tell(0, 2), -1);
    b.ends("along", 0, 3, along -> b.on("row tgwh;row cspt;kick k 6 by 1 0;").tell(along, 1));
    b.ends("across", 0, 1, across -> b.on("row tgwh;row cspt;kick k 6 by 1 0;").tell(3, across));
  }

  private void forget() {
    b.says("Promise 29", "All that was TOLD is forgotten: how many there were.");
    for (int told = 0; told <= 5; told++) {
      StoneHome x = b.on("row tth;kick k 6 by 1 0;");
      for (int i = 0; i < told; i++) {
        x.tell(i % 3, 0);
      }
      b.due("forget of " + told, x.forget(), told);
      b.due("none are left", x.count(8), 0);
      b.due("none to be forgotten", x.forget(), 0);
      b.due("none are known", x.fits(1, -1), -1);
      b.due("the first one anew", x.tell(2, 0), 0);
      b.due("it counts alone", x.fits(1, -1), 0);
    }
    StoneHome full = b.on("row tth;kick k 6 by 1 0;");
    for (int i = 0; i < 6; i++) {
      full.tell(0, 0);
    }
    b.due("a 6th was none", full.forget(), 5);
    b.refused("forget() where nothing is told", Scenes::fresh, StoneHome::forget, 0);
  }

  private static final String FITTING = "row tttth;row tttgt;faces 2;kick a 4 by 1 0 2 by 1 0 turn 1;"
      + "kick b 3 by 1 0 2 by 2 0 1 by 0 0;kick c 6 by 0 1;runs=face;lives 2;";

  private StoneHome told(String text, int... squares) {
    StoneHome x = b.on(text);
    for (int i = 0; i + 1 < squares.length; i += 2) {
      x.tell(squares[i], squares[i + 1]);
    }
    return x;
  }

  private void fitsHowMany() {
    b.says(TERMS, "FITS: rows of k KICKS by which it may have lain there each time (not LOST at any of them): how many;");
    b.due("the row of none", told(FITTING).fits(0, -1), 1);
    b.due("one", told(FITTING, 1, 0).fits(1, -1), 2);
    b.due("two", told(FITTING, 1, 0, 3, 0).fits(2, -1), 3);
    b.due("lost at the last", told(FITTING, 1, 0, 3, 0, 3, 1).fits(3, -1), 0);
    b.due("a lost one with a life lies where it was, but does not count", told("row tt;kick k 6 by 0 1;lives 2;", 0, 0).fits(1, -1), 0);
    b.due("at a wall it does lie there", told("row tw;kick k 6 by 1 0;", 0, 0).fits(1, -1), 1);
    b.due("barred by cars", told("row tt;kick k 6 by 1 0;cars=1;", 1, 0).fits(1, -1), 0);
    b.due("barred only later", told("row ttt;kick k 6 by 1 0;cars=second-5;", 1, 0, 2, 0).fits(1, -1), 1);
    b.due("barred only later", told("row ttt;kick k 6 by 1 0;cars=second-5;", 1, 0, 2, 0).fits(2, -1), 0);
    b.due("what cannot be", told("row pt;kick a 3 by 1 0 3 by 1 0;kick b 6 by 1 0;", 1, 0).fits(1, -1), 1);
    b.due("from the text's stone on", told("row ttth;kick k 6 by 1 0;stone 1 0 0;", 2, 0).fits(1, -1), 1);
    b.due("with the text's face", told("row ttth;faces 2;stone 0 0 1;kick k 6 by 1 0;runs=face;", 2, 0).fits(1, -1), 1);
    b.due("from home none can be", told("row th;kick k 6 by 1 0;", 1, 0, 1, 0).fits(2, -1), 0);
  }

  private void fitsWhich() {
    b.says(TERMS, "which: the i-th (by the first KICK's number, then the next one's; 4 to the place, the first KICK the highest);");
    StoneHome two = told(FITTING, 1, 0, 3, 0);
    b.due("a, a", two.fits(2, 0), 0);
    b.due("a, b", two.fits(2, 1), 1);
    b.due("b, b", two.fits(2, 2), 5);
    StoneHome all = everyRow();
    for (int i : new int[] {0, 1, 4, 255, 256, 1022, 1023}) {
      b.due("the " + i + "-th of all", all.fits(5, i), i);
    }
    StoneHome three = told("row tt;kick a 6 by 0 1;kick b 6 by 0 0;kick c 6 by 0 0;", 0, 0, 0, 0);
    int[] rows = {5, 6, 9, 10};
    for (int i = 0; i < rows.length; i++) {
      b.due("the " + i + "-th of b and c", three.fits(2, i), rows[i]);
    }
  }

  private void fitsAsKnownByK() {
    b.says("Promise 30", "FITS, as KNOWN by k: how many (i NONE), else the i-th;");
    b.due("how many", everyRow().fits(5, StoneHome.NONE), 1024);
    b.due("of fewer", everyRow().fits(3, StoneHome.NONE), 64);
    b.due("of none", everyRow().fits(0, 0), 0);
  }

  private void fitsNoneForNoSuchOnes() {
    b.says("Promise 30", "NONE: no such ones, not so many.");
    fitsNone();
  }

  private StoneHome everyRow() {
    String kicks = "kick a 6 by 1 0;kick b 6 by 1 0;kick c 6 by 1 0;kick d 1 by 1 0 5 by 2 0;";
    return told("row t;" + kicks, 0, 0, 0, 0, 0, 0, 0, 0, 0, 0);
  }

  private void fitsNone() {
    b.ends("k of five", 0, 5, k -> everyRow().fits(k, -1));
    b.ends("k of none", 0, 0, k -> told(FITTING).fits(k, -1));
    b.due("not so many", everyRow().fits(5, 1024), -1);
    b.due("not so many", everyRow().fits(0, 1), -1);
    b.due("not so many", told(FITTING, 4, 1).fits(1, 0), -1);
    b.due("below NONE", everyRow().fits(5, -2), -1);
    for (int far : FAR_OFF) {
      b.due("far off", everyRow().fits(1, far), -1);
    }
    b.refusedAlways("fits(3, NONE)", x -> x.fits(3, -1), -1);
    b.refusedAlways("fits(-1, NONE)", x -> x.fits(-1, -1), -1);
    b.refusedAlways("fits(0, 1)", x -> x.fits(0, 1), -1);
    b.refusedAlways("fits(0, -2)", x -> x.fits(0, -2), -1);
    b.refusedAlways("fits(6, 0)", x -> x.fits(6, 0), -1);
  }

  private void oftenOf6ByItself() {
    b.says(TERMS, "how many of 6 by itself, k times, by the i-th.");
    b.due("of 1, by the row of none", told(FITTING).often(0, 0), 1);
    StoneHome one = told(FITTING, 1, 0);
    b.due("a", one.often(1, 0), 6);
    b.due("b", one.often(1, 1), 3);
    StoneHome two = told(FITTING, 1, 0, 3, 0);
    b.due("a, a: turned, then any", two.often(2, 0), 12);
    b.due("a, b: as it was and 2, turned and 1", two.often(2, 1), 14);
    b.due("b, b", two.often(2, 2), 6);
  }

  private void oftenByTheIth() {
    b.says("Promise 31", "FITS: of 6 by itself, k times, how many by the i-th;");
    StoneHome all = everyRow();
    b.due("all of 7,776", all.often(5, 0), 7776);
    b.due("all of 7,776", all.often(5, 1023), 7776);
    StoneHome least = told("row tttttttt;kick k 1 by 1 0 5 by 0 0;", 1, 0, 2, 0, 3, 0, 4, 0, 5, 0);
    b.due("1 of 7,776", least.often(5, 0), 1);
    b.due("1 of 6", least.often(1, 0), 1);
  }

  private void oftenNoneForNoSuchOnes() {
    b.says("Promise 31", "NONE: no such ones.");
    b.ends("k", 0, 5, k -> everyRow().often(k, 0));
    b.ends("i of one", 0, 1, i -> told(FITTING, 1, 0).often(1, i));
    b.ends("i of none", 0, 0, i -> told(FITTING).often(0, i));
    b.due("1,024th of all", everyRow().often(5, 1024), -1);
    b.due("none fits", told(FITTING, 4, 1).often(1, 0), -1);
    b.refusedAlways("often(0, NONE)", x -> x.often(0, -1), -1);
    b.refusedAlways("often(0, 1)", x -> x.often(0, 1), -1);
    b.refusedAlways("often(3, 0)", x -> x.often(3, 0), -1);
    b.refusedAlways("often(-1, 0)", x -> x.often(-1, 0), -1);
    b.refusedAlways("often(6, 0)", x -> x.often(6, 0), -1);
  }

  private void holdInASlot() {
    b.says("Promise 32", "All that goes on (not what is TOLD, nor the tape) is held in a SLOT (0 .. 2): true;");
    for (int slot = 0; slot <= 2; slot++) {
      for (Consumer<StoneHome> with : Scenes.ALL) {
        heldAndGoneOnFrom(slot, with);
      }
    }
    StoneHome over = Scenes.of(Scenes::busy);
    b.due("hold over what is held", over.hold(1), true);
    b.due("SLOTS", over.count(9), 1);
    over.kick(0);
    over.restore(1);
    b.due("the latest one counts", over.now(0), 2);
  }

  private void holdFalseForNoSuchOne() {
    b.says("Promise 32", "false: no such one.");
    for (int slot : new int[] {-1, 3, Integer.MIN_VALUE, Integer.MAX_VALUE}) {
      b.refusedAlways("hold(" + slot + ")", x -> Bounds.truth(x.hold(slot)), 0);
    }
  }

  /** What is told and on the tape behind the hold stays so; the rest is as it was. */
  private void heldAndGoneOnFrom(int slot, Consumer<StoneHome> with) {
    StoneHome x = Scenes.of(with);
    StoneHome untouched = Scenes.of(with);
    int toldBefore = x.count(8);
    int undoable = x.count(7);
    b.due("hold(" + slot + ")", x.hold(slot), true);
    b.due("things that can be undone stay", x.count(7), undoable);
    x.waits();
    x.touch(1);
    x.kick(0);
    x.tell(0, 0);
    x.feed(0, 0, 0, 0, 0);
    int bytes = x.count(6);
    b.due("restore(" + slot + ")", x.restore(slot), true);
    for (int what = 0; what <= 8; what++) {
      b.due("now(" + what + ")", x.now(what), untouched.now(what));
    }
    b.due("what is told stays", x.count(8), toldBefore + 1);
    b.due("the tape stays", x.count(6), bytes);
  }

  private void restoreGoesOn() {
    b.says("Promise 33", "It goes on from what a SLOT holds (that stays there; nothing can be undone then): true;");
    StoneHome x = Scenes.of(Scenes::busy);
    b.due("restore(1)", x.restore(1), true);
    b.now(x, 1, 0, 1, 1, 1, 7, 0, 0, 0);
    b.due("things that can be undone", x.count(7), 0);
    b.due("nothing can be undone", x.undo(), false);
    x.waits();
    b.due("what is done then can be", x.count(7), 1);
    b.due("it stays there", x.restore(1), true);
    b.now(x, 1, 0, 1, 1, 1, 7, 0, 0, 0);
    b.due("SLOTS", x.count(9), 1);
    StoneHome three = b.on("row tttth;kick k 6 by 1 0;");
    for (int slot = 0; slot < 3; slot++) {
      three.hold(slot);
      three.kick(0);
    }
    for (int slot : new int[] {2, 0, 1, 1, 0, 2}) {
      b.due("restore(" + slot + ")", three.restore(slot), true);
      b.due("along", three.now(0), slot);
    }
  }

  private void restoreFalseAndNothingHappens() {
    b.says("Promise 33", "false, and nothing happens: no such one, nothing is held.");
    for (int slot : new int[] {-1, 3, Integer.MIN_VALUE, Integer.MAX_VALUE}) {
      b.refusedAlways("restore(" + slot + ")", y -> Bounds.truth(y.restore(slot)), 0);
    }
    b.refusedAlways("restore(0)", y -> Bounds.truth(y.restore(0)), 0);
    b.refusedAlways("restore(2)", y -> Bounds.truth(y.restore(2)), 0);
    b.refused("restore(1) of a new one", Scenes::fresh, y -> Bounds.truth(y.restore(1)), 0);
    b.refused("restore(1) behind a new text", y -> {
      Scenes.busy(y);
      y.back(y.count(6));
      Checks.read(y, BASE);
    }, y -> Bounds.truth(y.restore(1)), 0);
  }

  private void countEach() {
    b.says("Promise 34", "0 how long ROWS are, 1 ROWS, 2 FACES, 3 KICKS, 4 TAKES, 5 SQUARES that are home, 6 bytes on the tape,"
        + " 7 things that can be undone, 8 TOLD ones, 9 SLOTS that hold something, 10 OUTCOMES of all KICKS.");
    counts(Scenes.of(Scenes::fresh), 2, 1, 1, 1, 5, 1, 0, 0, 0, 0, 1);
    counts(Scenes.of(Scenes::busy), 6, 2, 2, 3, 7, 1, 20, 3, 2, 1, 4);
    String six = "1 by 0 0 ".repeat(6) + ";";
    StoneHome most = b.on("row hhhhhhhh;".repeat(4) + "faces 3;takes 99;kick a " + six + "kick b " + six + "kick c " + six + "kick d " + six);
    for (int i = 0; i < 5; i++) {
      most.tell(0, 0);
      most.hold(i);
    }
    Scenes.fill(most, 2000);
    counts(most, 8, 4, 3, 4, 99, 32, 2000, 0, 5, 3, 24);
    counts(b.on("row t;takes 1;kick a 6 by 0 0;"), 1, 1, 1, 1, 1, 0, 0, 0, 0, 0, 1);
    StoneHome done = b.on("row tt;kick k 6 by 0 0;");
    for (int i = 0; i <= 55; i++) {
      b.due("count(7) behind " + i, done.count(7), Math.min(i, 50));
      done.waits();
    }
  }

  private void countNoneForOthers() {
    b.says("Promise 34", "NONE for others.");
    b.ends("count", 0, 10, what -> Scenes.of(Scenes::busy).count(what));
    b.refusedAlways("count(-1)", x -> x.count(-1), -1);
    b.refusedAlways("count(11)", x -> x.count(11), -1);
  }

  private void counts(StoneHome x, int... all) {
    for (int what = 0; what < all.length; what++) {
      b.due("count(" + what + ")", x.count(what), all[what]);
    }
  }
}
