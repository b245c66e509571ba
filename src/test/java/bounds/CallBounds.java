import java.util.List;
import java.util.function.Consumer;
import java.util.function.ToLongFunction;

/** Terms, IV, and the promises 1 to 13 and 27 to 34: what is done by hand, told, held. */
final class CallBounds {
  private static final String TERMS = "Terms";
  private static final String BASE = "row th;kick k 6 by 1 0;";
  private static final List<Consumer<StoneHome>> SCENES =
      List.of(Scenes::fresh, Scenes::busy, Scenes::parked, Scenes::atHome, Scenes::lost);
  private static final List<Consumer<StoneHome>> OVER = List.of(Scenes::atHome, Scenes::lost);
  private static final int[] FAR_OFF = {Integer.MIN_VALUE, -100000, 100000, Integer.MAX_VALUE};

  private final Bounds b;

  CallBounds(Bounds b) {
    this.b = b;
  }

  void look() {
    aNewObject();
    upTo512Calls();
    feed();
    back();
    read();
    place();
    now();
    square();
    cars();
    kick();
    waits();
    touch();
    undo();
    brings();
    can();
    tell();
    forget();
    fits();
    often();
    hold();
    restore();
    count();
  }

  private void refusedAlways(String what, ToLongFunction<StoneHome> call, long want) {
    for (Consumer<StoneHome> scene : SCENES) {
      b.refused(what, scene, call, want);
    }
  }

  private void refusedWhenOver(String what, ToLongFunction<StoneHome> call, long want) {
    for (Consumer<StoneHome> scene : OVER) {
      b.refused(what, scene, call, want);
    }
  }

  private static long truth(boolean answer) {
    return answer ? 1 : 0;
  }

  private void aNewObject() {
    b.says("Promise 1", "As told for ahead of all.");
    StoneHome x = new StoneHome();
    int[] counts = {2, 1, 1, 1, 5, 1, 0, 0, 0, 0, 1};
    for (int what = 0; what < counts.length; what++) {
      b.due("count(" + what + ")", x.count(what), counts[what]);
    }
    for (int what = 0; what <= 8; what++) {
      b.due("now(" + what + ")", x.now(what), 0);
    }
    b.due("tar", x.square(0, 0), 0);
    b.due("home", x.square(1, 0), 6);
    b.due("no more squares", x.square(2, 0), -1);
    b.due("no more rows", x.square(0, 1), -1);
    b.due("no second outcome", x.brings(0, 1, 0), -1);
    b.due("nothing to be undone", x.undo(), false);
    b.due("nothing held", x.restore(0) || x.restore(1) || x.restore(2), false);
    b.due("nothing told", x.forget(), 0);
    b.due("no fault", x.place(), -1);
    b.due("the kick", x.kick(0), 1);
    b.due("its seconds", x.now(5), 5);
    StoneHome other = new StoneHome();
    b.due("another object is another", other.now(0), 0);
  }

  private void upTo512Calls() {
    b.says("What it is", "An object is used for at most 512 calls after it has been made; what later calls answer is free.");
    StoneHome x = b.on("row tt;kick k 6 by 0 0;takes 99;cars=second-99*500;");
    int calls = x.count(4) == 99 ? 5 + 1 : 0;
    for (int i = 1; calls + i < 512 && i <= 500; i++) {
      b.due("wait " + i, x.waits(), 0);
    }
    b.due("the second", x.now(5), 99 * 500);
    b.due("traffic in second 99 * 501", x.kick(0), 2);
    StoneHome undone = new StoneHome();
    for (int i = 0; i < 255; i++) {
      b.due("a wait", undone.waits(), 0);
      b.due("undone", undone.undo(), true);
    }
    b.due("nothing done", undone.now(4), 0);
    b.due("none to be undone", undone.undo(), false);
  }

  private void feed() {
    b.says("Promise 2", "Twenty bytes, the highest of a first, come behind the tape: how many it has.");
    StoneHome x = new StoneHome();
    for (int i = 1; i <= 100; i++) {
      b.due("feed", x.feed(0x20202020, 0x20202020, 0x20202020, 0x20202020, 0x20202020), 20 * i);
    }
    StoneHome order = new StoneHome();
    order.feed(0x726f7720, 0x74683b6b, 0x69636b20, 0x6b203620, 0x62792031);
    order.feed(0x20303b09, 0x0a0d2009, 0x0a0d2009, 0x0a0d2009, 0x0a0d2009);
    b.due("the highest byte first", order.read(), 0);
    for (int at = 0; at < 20; at++) {
      int[] words = {0x20202020, 0x20202020, 0x20202020, 0x20202020, 0x20202020};
      words[at / 4] ^= 0xdf << 8 * (3 - at % 4);
      StoneHome high = new StoneHome();
      high.feed(words[0], words[1], words[2], words[3], words[4]);
      b.due("a byte of 255 is no token", high.read(), 1);
      b.due("its place", high.place(), at);
    }
    b.says("Promise 2", "NONE, and nothing comes, if it would have more than 2,000.");
    for (int bytes : new int[] {1981, 1982, 1990, 1999, 2000}) {
      b.refused("feed beyond 2,000 from " + bytes, y -> fill(y, bytes), y -> y.feed(0x23232323, -1, 0, 1, 2), -1);
    }
    StoneHome full = new StoneHome();
    fill(full, 1980);
    b.due("the last that fits", full.feed(0, 0, 0, 0, 0), 2000);
    b.due("no more", full.feed(0, 0, 0, 0, 0), -1);
    full.back(2000);
    b.due("from empty again", full.feed(0, 0, 0, 0, 0), 20);
  }

  /** So many blanks on the tape. */
  private static void fill(StoneHome x, int bytes) {
    for (int i = 0; i < bytes; i += 20) {
      x.feed(0x20202020, 0x20202020, 0x20202020, 0x20202020, 0x20202020);
    }
    x.back((20 - bytes % 20) % 20);
  }

  private void back() {
    b.says("Promise 3", "The last n bytes of the tape go: how many it has.");
    StoneHome x = new StoneHome();
    b.due("none of none", x.back(0), 0);
    x.feed(0, 0, 0, 0, 0);
    b.due("none", x.back(0), 20);
    b.due("one", x.back(1), 19);
    b.due("all but one", x.back(18), 1);
    b.due("the last one", x.back(1), 0);
    fill(x, 2000);
    b.due("all of 2,000", x.back(2000), 0);
    Checks.feed(x, (BASE + "###").getBytes(java.nio.charset.StandardCharsets.ISO_8859_1));
    b.due("the last ones", x.back(3), BASE.length());
    b.due("the rest is as it was", x.read(), 0);
    b.says("Promise 3", "NONE, and nothing goes, if it has not so many, or n is below 0.");
    b.refused("one of none", Scenes::fresh, y -> y.back(1), -1);
    b.refused("21 of 20", Scenes::busy, y -> y.back(21), -1);
    b.refused("2,001 of 2,000", y -> fill(y, 2000), y -> y.back(2001), -1);
    refusedAlways("back(-1)", y -> y.back(-1), -1);
    refusedAlways("back(least)", y -> y.back(Integer.MIN_VALUE), -1);
    refusedAlways("back(most)", y -> y.back(Integer.MAX_VALUE), -1);
  }

  private void read() {
    b.says("Promise 4", "The tape, which is empty then, is read: 0, or the number of its FAULT.");
    String[] texts = {BASE, "#", "row th;".repeat(5), BASE + "kick k 6 by 1 0;", "faces 4;", "row x;", ""};
    int[] numbers = {0, 1, 2, 3, 5, 6, 7};
    StoneHome x = new StoneHome();
    for (int i = 0; i < texts.length; i++) {
      b.due("read", Checks.read(x, texts[i]), numbers[i]);
      b.due("the tape", x.count(6), 0);
      b.due("an empty tape", x.read(), 7);
      b.due("the tape", x.count(6), 0);
    }
  }

  private void place() {
    b.says("Promise 5", "The byte of the latest read()'s FAULT; NONE without.");
    StoneHome x = new StoneHome();
    b.due("no read yet", x.place(), -1);
    b.due("a fault at 0", Checks.read(x, "#"), 1);
    b.due("its place", x.place(), 0);
    fill(x, 1999);
    x.feed(0, 0, 0, 0, 0);
    b.due("a feed that is refused, and all else, leaves it", x.place(), 0);
    b.due("a fault at the end of 1,999", x.read(), 7);
    b.due("its place", x.place(), 1999);
    fill(x, 2000);
    b.due("a fault at the end of 2,000", x.read(), 7);
    b.due("its place", x.place(), 2000);
    x.kick(0);
    x.undo();
    b.due("its place", x.place(), 2000);
    b.due("no fault", Checks.read(x, BASE), 0);
    b.due("no place", x.place(), -1);
    b.due("the latest one", Checks.read(x, "row x;"), 6);
    b.due("its place", x.place(), 4);
  }

  private void now(StoneHome x, int... all) {
    for (int what = 0; what < all.length; what++) {
      b.due("now(" + what + ")", x.now(what), all[what]);
    }
  }

  private StoneHome scene(Consumer<StoneHome> scene) {
    StoneHome x = new StoneHome();
    scene.accept(x);
    return x;
  }

  private void now() {
    b.says("Promise 6", "Now: what 0 ALONG, 1 ACROSS (-2 each if it is LOST), 2 FACE, 3 LIVES, 4 kicks and waits so far,"
        + " 5 the second, 6 touches, 7: 1 HOME, 2 LOST for good, else 0, 8 lives lost.");
    now(scene(Scenes::busy), 2, 0, 1, 1, 2, 14, 1, 0, 0);
    now(scene(Scenes::parked), 3, 0, 1, 1, 2, 14, 2, 0, 0);
    now(scene(Scenes::atHome), 5, 0, 1, 1, 2, 14, 4, 1, 0);
    now(scene(Scenes::lost), -2, -2, 1, 0, 4, 28, 1, 2, 1);
    StoneHome less = scene(Scenes::busy);
    less.kick(2);
    now(less, 2, 0, 1, 0, 3, 21, 1, 0, 1);
    StoneHome corner = b.on("row tttttttt;".repeat(4) + "faces 3;lives 2;stone 7 3 2;kick k 6 by 1 0;");
    now(corner, 7, 3, 2, 2, 0, 0, 0, 0, 0);
    b.says("Promise 6", "NONE for others.");
    b.ends("now", 0, 8, what -> scene(Scenes::busy).now(what));
    refusedAlways("now(-1)", x -> x.now(-1), -1);
    refusedAlways("now(9)", x -> x.now(9), -1);
  }

  private void square() {
    b.says("Promise 7", "The sort of a SQUARE (0 .. 6); NONE: no such one.");
    StoneHome x = b.on("row tcspgwht;row thwgpsct;kick k 6 by 1 0;");
    for (int along = 0; along < 7; along++) {
      b.due("square(" + along + ", 0)", x.square(along, 0), along);
      b.due("square(" + (along + 1) + ", 1)", x.square(along + 1, 1), 6 - along);
    }
    b.ends("along", 0, 7, along -> x.square(along, 1));
    b.ends("across", 0, 1, across -> x.square(0, across));
    StoneHome most = b.on("row tttttttt;".repeat(4) + "kick k 6 by 1 0;");
    b.ends("along of the widest", 0, 7, along -> most.square(along, 3));
    b.ends("across of the widest", 0, 3, across -> most.square(7, across));
    StoneHome one = b.on("row t;kick k 6 by 1 0;");
    b.ends("along of one", 0, 0, along -> one.square(along, 0));
    b.ends("across of one", 0, 0, across -> one.square(0, across));
    refusedAlways("square(-1, 0)", y -> y.square(-1, 0), -1);
    refusedAlways("square(0, -1)", y -> y.square(0, -1), -1);
    refusedAlways("square(6, 0)", y -> y.square(6, 0), -1);
    refusedAlways("square(0, 2)", y -> y.square(0, 2), -1);
  }

  private void cars() {
    b.says("Promise 8", "Whether CARS tell more than 0 at a SQUARE in a second (0 .. 9999): 1, else 0; NONE: no such ones.");
    StoneHome x = b.on("row tgwh;row tttp;kick k 6 by 1 0;cars=second-along*100-across*1000-sort;");
    for (int along = 0; along < 4; along++) {
      for (int across = 0; across < 2; across++) {
        int from = along * 100 + across * 1000 + x.square(along, across);
        b.due("cars tell 0", x.cars(along, across, from), 0);
        b.due("cars tell 1", x.cars(along, across, from + 1), 1);
      }
    }
    b.due("cars tell less", x.cars(0, 1, 999), 0);
    b.due("the last second", b.on(BASE + "cars=second-9998;").cars(0, 0, 9999), 1);
    b.due("the last second", b.on(BASE + "cars=second-9999;").cars(0, 0, 9999), 0);
    b.due("second 0", b.on(BASE + "cars=1-second;").cars(0, 0, 0), 1);
    b.ends("second", 0, 9999, second -> x.cars(0, 0, second));
    b.ends("along", 0, 3, along -> x.cars(along, 0, 0));
    b.ends("across", 0, 1, across -> x.cars(0, across, 0));
    refusedAlways("cars(0, 0, -1)", y -> y.cars(0, 0, -1), -1);
    refusedAlways("cars(0, 0, 10000)", y -> y.cars(0, 0, 10000), -1);
    refusedAlways("cars(6, 0, 0)", y -> y.cars(6, 0, 0), -1);
    refusedAlways("cars(0, 2, 0)", y -> y.cars(0, 2, 0), -1);
  }

  private void kick() {
    b.says("Promise 9", "A KICK: 0 it lies there, 1 HOME, 2 LOST for good, 3 a LIFE less;");
    StoneHome x = b.on("row tth;kick a 6 by 1 0;kick b 6 by 0 1;lives 1;");
    b.due("it lies there", x.kick(0), 0);
    b.due("a life less", x.kick(1), 3);
    b.due("lost for good", x.kick(1), 2);
    x.undo();
    b.due("home", x.kick(0), 1);
    b.says("Promise 9", "-2, and nothing happens: it cannot be, HOME, LOST;");
    b.refused("it cannot be", Scenes::parked, y -> y.kick(1), -2);
    for (int kick = 0; kick < 3; kick++) {
      int which = kick;
      refusedWhenOver("kick(" + kick + ")", y -> y.kick(which), -2);
    }
    b.says("Promise 9", "NONE: no such one.");
    for (int kick : new int[] {-1, 3, 4, 5}) {
      refusedAlways("kick(" + kick + ")", y -> y.kick(kick), -1);
    }
    for (int far : FAR_OFF) {
      b.refused("kick(" + far + ")", Scenes::busy, y -> y.kick(far), -1);
    }
    b.refused("kick(1) of one kick", Scenes::fresh, y -> y.kick(1), -1);
    String four = "row t;kick a 6 by 0 0;kick b 6 by 0 0;kick c 6 by 0 0;kick d 6 by 0 0;";
    b.ends("kick", 0, 3, kick -> b.on(four).kick(kick));
  }

  private void waits() {
    b.says("Promise 10", "A WAIT: as for kick();");
    StoneHome x = b.on("row tth;kick k 6 by 1 0;lives 1;cars=second-5;");
    b.due("it lies there", x.waits(), 0);
    b.due("a life less", x.waits(), 3);
    b.due("lost for good", x.waits(), 2);
    b.due("three can be undone", x.count(7), 3);
    b.says("Promise 10", "-2, and nothing happens: HOME, LOST.");
    refusedWhenOver("waits()", StoneHome::waits, -2);
    b.refused("waits() at home from the beginning", y -> Checks.read(y, "row th;stone 1 0 0;kick k 6 by 1 0;"), StoneHome::waits, -2);
  }

  private void touch() {
    b.says("Promise 11", "A TOUCH (0 further ALONG, 1 back, 2 to the next ROW, 3 to the ROW ahead): true;");
    int[][] to = {{2, 1}, {0, 1}, {1, 2}, {1, 0}};
    for (int way = 0; way < 4; way++) {
      StoneHome x = b.on("row ttt;row ttt;row ttt;stone 1 1 0;kick k 6 by 1 0;");
      b.due("touch(" + way + ")", x.touch(way), true);
      b.due("along behind touch(" + way + ")", x.now(0), to[way][0]);
      b.due("across behind touch(" + way + ")", x.now(1), to[way][1]);
      b.due("can be undone", x.count(7), 1);
    }
    b.says("Promise 11", "false, and nothing happens: no such SQUARE, a gutter, a wall, HOME, LOST, no such way.");
    String corners = "row tttttttt;".repeat(4) + "kick k 6 by 1 0;";
    b.refused("back of the first", y -> Checks.read(y, corners), y -> truth(y.touch(1)), 0);
    b.refused("ahead of the first row", y -> Checks.read(y, corners), y -> truth(y.touch(3)), 0);
    b.refused("beyond the last", y -> Checks.read(y, corners + "stone 7 3 0;"), y -> truth(y.touch(0)), 0);
    b.refused("behind the last row", y -> Checks.read(y, corners + "stone 7 3 0;"), y -> truth(y.touch(2)), 0);
    b.refused("a wall", Scenes::parked, y -> truth(y.touch(2)), 0);
    b.refused("a gutter", y -> Checks.read(y, "row tg;kick k 6 by 1 0;"), y -> truth(y.touch(0)), 0);
    for (int way = 0; way < 4; way++) {
      int which = way;
      refusedWhenOver("touch(" + way + ")", y -> truth(y.touch(which)), 0);
    }
    for (int way : new int[] {-1, 4, Integer.MIN_VALUE, Integer.MAX_VALUE}) {
      refusedAlways("touch(" + way + ")", y -> truth(y.touch(way)), 0);
    }
  }

  private void undo() {
    b.says("Promise 12", "The last thing done (kick, waits, touch) is undone: true;");
    StoneHome x = b.on("row tttt;faces 2;kick a 6 by 1 0 turn 1;kick b 6 by 0 1;lives 1;");
    x.kick(0);
    x.waits();
    x.touch(0);
    x.kick(1);
    x.kick(1);
    now(x, -2, -2, 1, 0, 4, 20, 1, 2, 1);
    b.due("undo()", x.undo(), true);
    now(x, 2, 0, 1, 0, 3, 15, 1, 0, 1);
    b.due("undo()", x.undo(), true);
    now(x, 2, 0, 1, 1, 2, 10, 1, 0, 0);
    b.due("undo()", x.undo(), true);
    now(x, 1, 0, 1, 1, 2, 10, 0, 0, 0);
    b.due("undo()", x.undo(), true);
    now(x, 1, 0, 1, 1, 1, 5, 0, 0, 0);
    b.due("undo()", x.undo(), true);
    now(x, 0, 0, 0, 1, 0, 0, 0, 0, 0);
    StoneHome home = scene(Scenes::atHome);
    b.due("from home", home.undo(), true);
    b.due("it is no more", home.now(7), 0);
    b.says("Promise 12", "false: there is none (the last 50 can be).");
    b.refused("nothing was done", Scenes::fresh, y -> truth(y.undo()), 0);
    for (int things : new int[] {49, 50, 51, 99, 100, 101}) {
      undoAllOf(things);
    }
    b.refused("what was told, held, fed, refused is no thing done", y -> {
      y.hold(0);
      y.tell(0, 0);
      y.feed(0, 0, 0, 0, 0);
      y.kick(1);
      y.touch(1);
    }, y -> truth(y.undo()), 0);
    undoneInTheMiddle();
  }

  private void undoAllOf(int things) {
    StoneHome x = b.on("row tt;kick k 6 by 0 0;");
    for (int i = 0; i < things; i++) {
      x.waits();
    }
    int most = Math.min(things, 50);
    b.due("things that can be undone of " + things, x.count(7), most);
    for (int i = 1; i <= most; i++) {
      b.due("undo " + i + " of " + things, x.undo(), true);
      b.due("waits left", x.now(4), things - i);
    }
    b.due("no more of " + things, x.undo(), false);
    b.due("waits left", x.now(4), things - most);
    b.due("none can be undone", x.count(7), 0);
  }

  /** What is done behind something undone goes over it, round the 50 too. */
  private void undoneInTheMiddle() {
    StoneHome x = b.on("row tt;kick k 6 by 0 0;");
    for (int i = 0; i < 60; i++) {
      x.waits();
    }
    for (int i = 0; i < 20; i++) {
      x.undo();
    }
    x.touch(0);
    b.due("30 and one", x.count(7), 31);
    b.due("the touch", x.undo() && x.now(6) == 0 && x.now(4) == 40, true);
    for (int i = 1; i <= 30; i++) {
      b.due("undo " + i, x.undo(), true);
    }
    b.due("no more", x.undo(), false);
    b.due("ten are left", x.now(4), 10);
  }

  private void brings(StoneHome x, int kick, int outcome, int... all) {
    for (int what = 0; what < 4; what++) {
      b.due("brings(" + kick + ", " + outcome + ", " + what + ")", x.brings(kick, outcome, what), all[what]);
    }
  }

  private void brings() {
    b.says("Promise 13", "Where an OUTCOME of a KICK brings it now: what 0 ALONG, 1 ACROSS, 2 FACE,"
        + " 3: 1 LOST (0 .. 2 then as it is behind that; -2 for good), else 0;");
    String text = "row ttp;row twh;faces 2;stone 1 0 1;kick a 2 by 1 1 turn 1 2 by 0 2 turn 1 2 by 0 1 turn 1;kick b 6 by 1 0;";
    StoneHome x = b.on(text + "lives 1;");
    brings(x, 0, 0, 2, 1, 0, 0);
    brings(x, 0, 1, 1, 0, 1, 1);
    brings(x, 0, 2, 1, 0, 0, 0);
    brings(x, 1, 0, 2, 0, 1, 0);
    StoneHome last = b.on(text);
    brings(last, 0, 1, -2, -2, -2, 1);
    brings(last, 0, 0, 2, 1, 0, 0);
    b.due("nothing is done by it", last.now(4) + last.count(7), 0);
    b.says("Promise 13", "NONE: no such ones, it cannot be, HOME, LOST.");
    String four = "row t;kick a 6 by 0 0;kick b 6 by 0 0;kick c 6 by 0 0;kick d " + "1 by 0 0 ".repeat(6) + ";";
    b.ends("kick", 0, 3, kick -> b.on(four).brings(kick, 0, 0));
    b.ends("outcome", 0, 5, outcome -> b.on(four).brings(3, outcome, 0));
    b.ends("outcome of one", 0, 0, outcome -> b.on(four).brings(0, outcome, 0));
    b.ends("what", 0, 3, what -> b.on(four).brings(0, 0, what));
    refusedAlways("brings(3, 0, 0)", y -> y.brings(3, 0, 0), -1);
    refusedAlways("brings(-1, 0, 0)", y -> y.brings(-1, 0, 0), -1);
    refusedAlways("brings(0, 1, 0)", y -> y.brings(0, 1, 0), -1);
    refusedAlways("brings(0, -1, 0)", y -> y.brings(0, -1, 0), -1);
    refusedAlways("brings(0, 0, 4)", y -> y.brings(0, 0, 4), -1);
    refusedAlways("brings(0, 0, -1)", y -> y.brings(0, 0, -1), -1);
    for (int what = 0; what < 4; what++) {
      int which = what;
      b.refused("it cannot be", Scenes::parked, y -> y.brings(1, 0, which), -1);
      refusedWhenOver("brings(0, 0, " + what + ")", y -> y.brings(0, 0, which), -1);
    }
  }

  private void can() {
    b.says("Promise 27", "How many KICKS can be as it lies (bits); 0: HOME, LOST.");
    StringBuilder kicks = new StringBuilder();
    for (int n = 1; n <= 4; n++) {
      kicks.append("kick ").append((char) ('a' + n)).append(n % 2 == 0 ? " 6 by 1 0;" : " 3 by 1 0 3 by 1 0;");
      b.due("all of " + n, b.on("row th;" + kicks).can(), (1 << n) - 1);
    }
    b.due("by a car that stands", b.on("row ph;" + kicks).can(), 10);
    b.due("none by a car that stands", b.on("row ph;kick a 3 by 1 0 3 by 1 0;").can(), 0);
    b.due("can() in the scene", scene(Scenes::parked).can(), 5);
    refusedWhenOver("can()", StoneHome::can, 0);
  }

  private void tell() {
    b.says(TERMS, "TOLD: on which SQUARE it lay behind its i-th KICK from the text's STONE on, one after the other, nothing else done,"
        + " 5 at most, in order; KNOWN by k: the first k.");
    StoneHome x = b.on("row ttttttth;kick k 6 by 1 0;");
    for (int i = 1; i <= 5; i++) {
      b.due("tell", x.tell(i, 0), i - 1);
      for (int k = 0; k <= i; k++) {
        b.due("known by " + k + " of " + i, x.fits(k, -1), 1);
      }
      b.due("known by more than " + i, x.fits(i + 1, -1), -1);
    }
    StoneHome order = b.on("row ttttttth;kick k 6 by 1 0;");
    order.tell(2, 0);
    order.tell(1, 0);
    b.due("not in order", order.fits(1, -1), 0);
    b.due("not in order", order.fits(2, -1), 0);
    b.due("none are known", order.fits(0, -1), 1);
    b.says("Promise 28", "It is TOLD: its number;");
    StoneHome all = b.on("row tgwh;row cspt;kick k 6 by 1 0;");
    b.due("tar", all.tell(0, 0), 0);
    b.due("a gutter", all.tell(1, 0), 1);
    b.due("a wall", all.tell(2, 0), 2);
    b.due("home", all.tell(3, 0), 3);
    b.due("a car", all.tell(2, 1), 4);
    b.says("Promise 28", "NONE, and nothing happens: 5 are there, no such SQUARE.");
    for (int scene = 0; scene < SCENES.size(); scene++) {
      Consumer<StoneHome> with = SCENES.get(scene);
      b.refused("a 6th", y -> {
        with.accept(y);
        while (y.count(8) < 5) {
          y.tell(0, 0);
        }
      }, y -> y.tell(1, 0), -1);
    }
    refusedAlways("tell(-1, 0)", y -> y.tell(-1, 0), -1);
    refusedAlways("tell(0, -1)", y -> y.tell(0, -1), -1);
    refusedAlways("tell(6, 0)", y -> y.tell(6, 0), -1);
    refusedAlways("tell(0, 2)", y -> y.tell(0, 2), -1);
    b.ends("along", 0, 3, along -> b.on("row tgwh;row cspt;kick k 6 by 1 0;").tell(along, 1));
    b.ends("across", 0, 1, across -> b.on("row tgwh;row cspt;kick k 6 by 1 0;").tell(3, across));
  }

  private void forget() {
    b.says("Promise 29", "All that was TOLD is forgotten: how many there were.");
    for (int told = 0; told <= 5; told++) {
      StoneHome x = b.on("row tth;kick k 6 by 1 0;");
      for (int i = 0; i < told; i++) {
        x.tell(i % 3, 0);
      }
      b.due("forget of " + told, x.forget(), told);
      b.due("none are left", x.count(8), 0);
      b.due("none to be forgotten", x.forget(), 0);
      b.due("none are known", x.fits(1, -1), -1);
      b.due("the first one anew", x.tell(2, 0), 0);
      b.due("it counts alone", x.fits(1, -1), 0);
    }
    StoneHome full = b.on("row tth;kick k 6 by 1 0;");
    for (int i = 0; i < 6; i++) {
      full.tell(0, 0);
    }
    b.due("a 6th was none", full.forget(), 5);
    b.refused("forget() where nothing is told", Scenes::fresh, StoneHome::forget, 0);
  }

  private static final String FITTING = "row tttth;row tttgt;faces 2;kick a 4 by 1 0 2 by 1 0 turn 1;"
      + "kick b 3 by 1 0 2 by 2 0 1 by 0 0;kick c 6 by 0 1;runs=face;lives 2;";

  private StoneHome told(String text, int... squares) {
    StoneHome x = b.on(text);
    for (int i = 0; i + 1 < squares.length; i += 2) {
      x.tell(squares[i], squares[i + 1]);
    }
    return x;
  }

  private void fits() {
    b.says(TERMS, "FITS: rows of k KICKS by which it may have lain there each time (not LOST at any of them): how many;");
    b.due("the row of none", told(FITTING).fits(0, -1), 1);
    b.due("one", told(FITTING, 1, 0).fits(1, -1), 2);
    b.due("two", told(FITTING, 1, 0, 3, 0).fits(2, -1), 3);
    b.due("lost at the last", told(FITTING, 1, 0, 3, 0, 3, 1).fits(3, -1), 0);
    b.due("a lost one with a life lies where it was, but does not count", told("row tt;kick k 6 by 0 1;lives 2;", 0, 0).fits(1, -1), 0);
    b.due("at a wall it does lie there", told("row tw;kick k 6 by 1 0;", 0, 0).fits(1, -1), 1);
    b.due("barred by cars", told("row tt;kick k 6 by 1 0;cars=1;", 1, 0).fits(1, -1), 0);
    b.due("barred only later", told("row ttt;kick k 6 by 1 0;cars=second-5;", 1, 0, 2, 0).fits(1, -1), 1);
    b.due("barred only later", told("row ttt;kick k 6 by 1 0;cars=second-5;", 1, 0, 2, 0).fits(2, -1), 0);
    b.due("what cannot be", told("row pt;kick a 3 by 1 0 3 by 1 0;kick b 6 by 1 0;", 1, 0).fits(1, -1), 1);
    b.due("from the text's stone on", told("row ttth;kick k 6 by 1 0;stone 1 0 0;", 2, 0).fits(1, -1), 1);
    b.due("with the text's face", told("row ttth;faces 2;stone 0 0 1;kick k 6 by 1 0;runs=face;", 2, 0).fits(1, -1), 1);
    b.due("from home none can be", told("row th;kick k 6 by 1 0;", 1, 0, 1, 0).fits(2, -1), 0);
    b.says(TERMS, "which: the i-th (by the first KICK's number, then the next one's; 4 to the place, the first KICK the highest);");
    StoneHome two = told(FITTING, 1, 0, 3, 0);
    b.due("a, a", two.fits(2, 0), 0);
    b.due("a, b", two.fits(2, 1), 1);
    b.due("b, b", two.fits(2, 2), 5);
    StoneHome all = everyRow();
    for (int i : new int[] {0, 1, 4, 255, 256, 1022, 1023}) {
      b.due("the " + i + "-th of all", all.fits(5, i), i);
    }
    StoneHome three = told("row tt;kick a 6 by 0 1;kick b 6 by 0 0;kick c 6 by 0 0;", 0, 0, 0, 0);
    int[] rows = {5, 6, 9, 10};
    for (int i = 0; i < rows.length; i++) {
      b.due("the " + i + "-th of b and c", three.fits(2, i), rows[i]);
    }
    b.says("Promise 30", "FITS, as KNOWN by k: how many (i NONE), else the i-th;");
    b.due("how many", all.fits(5, StoneHome.NONE), 1024);
    b.due("of fewer", all.fits(3, StoneHome.NONE), 64);
    b.due("of none", all.fits(0, 0), 0);
    b.says("Promise 30", "NONE: no such ones, not so many.");
    fitsNone();
  }

  private StoneHome everyRow() {
    String kicks = "kick a 6 by 1 0;kick b 6 by 1 0;kick c 6 by 1 0;kick d 1 by 1 0 5 by 2 0;";
    return told("row t;" + kicks, 0, 0, 0, 0, 0, 0, 0, 0, 0, 0);
  }

  private void fitsNone() {
    b.ends("k of five", 0, 5, k -> everyRow().fits(k, -1));
    b.ends("k of none", 0, 0, k -> told(FITTING).fits(k, -1));
    b.due("not so many", everyRow().fits(5, 1024), -1);
    b.due("not so many", everyRow().fits(0, 1), -1);
    b.due("not so many", told(FITTING, 4, 1).fits(1, 0), -1);
    b.due("below NONE", everyRow().fits(5, -2), -1);
    for (int far : FAR_OFF) {
      b.due("far off", everyRow().fits(1, far), -1);
    }
    refusedAlways("fits(3, NONE)", x -> x.fits(3, -1), -1);
    refusedAlways("fits(-1, NONE)", x -> x.fits(-1, -1), -1);
    refusedAlways("fits(0, 1)", x -> x.fits(0, 1), -1);
    refusedAlways("fits(0, -2)", x -> x.fits(0, -2), -1);
    refusedAlways("fits(6, 0)", x -> x.fits(6, 0), -1);
  }

  private void often() {
    b.says(TERMS, "how many of 6 by itself, k times, by the i-th.");
    b.due("of 1, by the row of none", told(FITTING).often(0, 0), 1);
    StoneHome one = told(FITTING, 1, 0);
    b.due("a", one.often(1, 0), 6);
    b.due("b", one.often(1, 1), 3);
    StoneHome two = told(FITTING, 1, 0, 3, 0);
    b.due("a, a: turned, then any", two.often(2, 0), 12);
    b.due("a, b: as it was and 2, turned and 1", two.often(2, 1), 14);
    b.due("b, b", two.often(2, 2), 6);
    b.says("Promise 31", "FITS: of 6 by itself, k times, how many by the i-th;");
    StoneHome all = everyRow();
    b.due("all of 7,776", all.often(5, 0), 7776);
    b.due("all of 7,776", all.often(5, 1023), 7776);
    StoneHome least = told("row tttttttt;kick k 1 by 1 0 5 by 0 0;", 1, 0, 2, 0, 3, 0, 4, 0, 5, 0);
    b.due("1 of 7,776", least.often(5, 0), 1);
    b.due("1 of 6", least.often(1, 0), 1);
    b.says("Promise 31", "NONE: no such ones.");
    b.ends("k", 0, 5, k -> everyRow().often(k, 0));
    b.ends("i of one", 0, 1, i -> told(FITTING, 1, 0).often(1, i));
    b.ends("i of none", 0, 0, i -> told(FITTING).often(0, i));
    b.due("1,024th of all", all.often(5, 1024), -1);
    b.due("none fits", told(FITTING, 4, 1).often(1, 0), -1);
    refusedAlways("often(0, NONE)", x -> x.often(0, -1), -1);
    refusedAlways("often(0, 1)", x -> x.often(0, 1), -1);
    refusedAlways("often(3, 0)", x -> x.often(3, 0), -1);
    refusedAlways("often(-1, 0)", x -> x.often(-1, 0), -1);
    refusedAlways("often(6, 0)", x -> x.often(6, 0), -1);
  }

  private void hold() {
    b.says("Promise 32", "All that goes on (not what is TOLD, nor the tape) is held in a SLOT (0 .. 2): true;");
    for (int slot = 0; slot <= 2; slot++) {
      for (Consumer<StoneHome> with : SCENES) {
        heldAndGoneOnFrom(slot, with);
      }
    }
    StoneHome over = scene(Scenes::busy);
    b.due("hold over what is held", over.hold(1), true);
    b.due("SLOTS", over.count(9), 1);
    over.kick(0);
    over.restore(1);
    b.due("the latest one counts", over.now(0), 2);
    b.says("Promise 32", "false: no such one.");
    for (int slot : new int[] {-1, 3, Integer.MIN_VALUE, Integer.MAX_VALUE}) {
      refusedAlways("hold(" + slot + ")", x -> truth(x.hold(slot)), 0);
    }
  }

  /** What is told and on the tape behind the hold stays so; the rest is as it was. */
  private void heldAndGoneOnFrom(int slot, Consumer<StoneHome> with) {
    StoneHome x = scene(with);
    StoneHome untouched = scene(with);
    int toldBefore = x.count(8);
    int undoable = x.count(7);
    b.due("hold(" + slot + ")", x.hold(slot), true);
    b.due("things that can be undone stay", x.count(7), undoable);
    x.waits();
    x.touch(1);
    x.kick(0);
    x.tell(0, 0);
    x.feed(0, 0, 0, 0, 0);
    int bytes = x.count(6);
    b.due("restore(" + slot + ")", x.restore(slot), true);
    for (int what = 0; what <= 8; what++) {
      b.due("now(" + what + ")", x.now(what), untouched.now(what));
    }
    b.due("what is told stays", x.count(8), toldBefore + 1);
    b.due("the tape stays", x.count(6), bytes);
  }

  private void restore() {
    b.says("Promise 33", "It goes on from what a SLOT holds (that stays there; nothing can be undone then): true;");
    StoneHome x = scene(Scenes::busy);
    b.due("restore(1)", x.restore(1), true);
    now(x, 1, 0, 1, 1, 1, 7, 0, 0, 0);
    b.due("things that can be undone", x.count(7), 0);
    b.due("nothing can be undone", x.undo(), false);
    x.waits();
    b.due("what is done then can be", x.count(7), 1);
    b.due("it stays there", x.restore(1), true);
    now(x, 1, 0, 1, 1, 1, 7, 0, 0, 0);
    b.due("SLOTS", x.count(9), 1);
    StoneHome three = b.on("row tttth;kick k 6 by 1 0;");
    for (int slot = 0; slot < 3; slot++) {
      three.hold(slot);
      three.kick(0);
    }
    for (int slot : new int[] {2, 0, 1, 1, 0, 2}) {
      b.due("restore(" + slot + ")", three.restore(slot), true);
      b.due("along", three.now(0), slot);
    }
    b.says("Promise 33", "false, and nothing happens: no such one, nothing is held.");
    for (int slot : new int[] {-1, 3, Integer.MIN_VALUE, Integer.MAX_VALUE}) {
      refusedAlways("restore(" + slot + ")", y -> truth(y.restore(slot)), 0);
    }
    refusedAlways("restore(0)", y -> truth(y.restore(0)), 0);
    refusedAlways("restore(2)", y -> truth(y.restore(2)), 0);
    b.refused("restore(1) of a new one", Scenes::fresh, y -> truth(y.restore(1)), 0);
    b.refused("restore(1) behind a new text", y -> {
      Scenes.busy(y);
      y.back(y.count(6));
      Checks.read(y, BASE);
    }, y -> truth(y.restore(1)), 0);
  }

  private void count() {
    b.says("Promise 34", "0 how long ROWS are, 1 ROWS, 2 FACES, 3 KICKS, 4 TAKES, 5 SQUARES that are home, 6 bytes on the tape,"
        + " 7 things that can be undone, 8 TOLD ones, 9 SLOTS that hold something, 10 OUTCOMES of all KICKS.");
    counts(scene(Scenes::fresh), 2, 1, 1, 1, 5, 1, 0, 0, 0, 0, 1);
    counts(scene(Scenes::busy), 6, 2, 2, 3, 7, 1, 20, 3, 2, 1, 4);
    String six = "1 by 0 0 ".repeat(6) + ";";
    StoneHome most = b.on("row hhhhhhhh;".repeat(4) + "faces 3;takes 99;kick a " + six + "kick b " + six + "kick c " + six + "kick d " + six);
    for (int i = 0; i < 5; i++) {
      most.tell(0, 0);
      most.hold(i);
    }
    fill(most, 2000);
    counts(most, 8, 4, 3, 4, 99, 32, 2000, 0, 5, 3, 24);
    counts(b.on("row t;takes 1;kick a 6 by 0 0;"), 1, 1, 1, 1, 1, 0, 0, 0, 0, 0, 1);
    StoneHome done = b.on("row tt;kick k 6 by 0 0;");
    for (int i = 0; i <= 55; i++) {
      b.due("count(7) behind " + i, done.count(7), Math.min(i, 50));
      done.waits();
    }
    b.says("Promise 34", "NONE for others.");
    b.ends("count", 0, 10, what -> scene(Scenes::busy).count(what));
    refusedAlways("count(-1)", x -> x.count(-1), -1);
    refusedAlways("count(11)", x -> x.count(11), -1);
  }

  private void counts(StoneHome x, int... all) {
    for (int what = 0; what < all.length; what++) {
      b.due("count(" + what + ")", x.count(what), all[what]);
    }
  }
}
