import java.nio.charset.StandardCharsets;

/** The promises 1 to 13: the tape, what is now, what is done by hand. */
final class CallBounds {
  private static final String BASE = "row th;kick k 6 by 1 0;";
  private static final int[] FAR_OFF = {Integer.MIN_VALUE, -100000, 100000, Integer.MAX_VALUE};

  private final Bounds b;

  CallBounds(Bounds b) {
    this.b = b;
  }

  void look() {
    aNewObject();
    upTo512Calls();
    feedTwentyBytes();
    feedNoneBeyond2000();
    backTheLastBytes();
    backNoneIfNotSoMany();
    read();
    place();
    nowEach();
    nowNoneForOthers();
    square();
    cars();
    kickAnswers();
    kickMinus2AndNothingHappens();
    kickNoneForNoSuchOne();
    waitsAsForKick();
    waitsMinus2AndNothingHappens();
    touchFourWays();
    touchFalseAndNothingHappens();
    undoTheLastThingDone();
    undoTheLast50();
    bringsWhere();
    bringsNone();
  }

  private void aNewObject() {
    b.says("Promise 1", "As told for ahead of all.");
    StoneHome x = new StoneHome();
    int[] counts = {2, 1, 1, 1, 5, 1, 0, 0, 0, 0, 1};
    for (int what = 0; what < counts.length; what++) {
      b.due("count(" + what + ")", x.count(what), counts[what]);
    }
    for (int what = 0; what <= 8; what++) {
      b.due("now(" + what + ")", x.now(what), 0);
    }
    b.due("tar", x.square(0, 0), 0);
    b.due("home", x.square(1, 0), 6);
    b.due("no more squares", x.square(2, 0), -1);
    b.due("no more rows", x.square(0, 1), -1);
    b.due("no second outcome", x.brings(0, 1, 0), -1);
    b.due("nothing to be undone", x.undo(), false);
    b.due("nothing held", x.restore(0) || x.restore(1) || x.restore(2), false);
    b.due("nothing told", x.forget(), 0);
    b.due("no fault", x.place(), -1);
    b.due("the kick", x.kick(0), 1);
    b.due("its seconds", x.now(5), 5);
    StoneHome other = new StoneHome();
    b.due("another object is another", other.now(0), 0);
  }

  private void upTo512Calls() {
    b.says("What it is", "An object is used for at most 512 calls after it has been made; what later calls answer is free.");
    // Three times feed(), back(), read(): the waits begin with the 6th call.
    StoneHome x = b.on("row tt;kick k 6 by 0 0;takes 99;cars=second-99*505;");
    for (int call = 6; call <= 510; call++) {
      b.due("call " + call, x.waits(), 0);
    }
    b.due("call 511, the second", x.now(5), 99 * 505);
    b.due("call 512, traffic in second 99 * 506", x.kick(0), 2);
    StoneHome undone = new StoneHome();
    for (int i = 0; i < 255; i++) {
      b.due("a wait", undone.waits(), 0);
      b.due("undone", undone.undo(), true);
    }
    b.due("nothing done", undone.now(4), 0);
    b.due("none to be undone", undone.undo(), false);
  }

  private void feedTwentyBytes() {
    b.says("Promise 2", "Twenty bytes, the highest of a first, come behind the tape: how many it has.");
    StoneHome x = new StoneHome();
    for (int i = 1; i <= 100; i++) {
      b.due("feed", x.feed(0x20202020, 0x20202020, 0x20202020, 0x20202020, 0x20202020), 20 * i);
    }
    StoneHome order = new StoneHome();
    order.feed(0x726f7720, 0x74683b6b, 0x69636b20, 0x6b203620, 0x62792031);
    order.feed(0x20303b09, 0x0a0d2009, 0x0a0d2009, 0x0a0d2009, 0x0a0d2009);
    b.due("the highest byte first", order.read(), 0);
    for (int at = 0; at < 20; at++) {
      int[] words = {0x20202020, 0x20202020, 0x20202020, 0x20202020, 0x20202020};
      words[at / 4] ^= 0xdf << 8 * (3 - at % 4);
      StoneHome high = new StoneHome();
      high.feed(words[0], words[1], words[2], words[3], words[4]);
      b.due("a byte of 255 is no token", high.read(), 1);
      b.due("its place", high.place(), at);
    }
  }

  private void feedNoneBeyond2000() {
    b.says("Promise 2", "NONE, and nothing comes, if it would have more than 2,000.");
    for (int bytes : new int[] {1981, 1982, 1990, 1999, 2000}) {
      b.refused("feed beyond 2,000 from " + bytes, y -> Scenes.fill(y, bytes), y -> y.feed(0x23232323, -1, 0, 1, 2), -1);
    }
    StoneHome full = new StoneHome();
    Scenes.fill(full, 1980);
    b.due("the last that fits", full.feed(0, 0, 0, 0, 0), 2000);
    b.due("no more", full.feed(0, 0, 0, 0, 0), -1);
    full.back(2000);
    b.due("from empty again", full.feed(0, 0, 0, 0, 0), 20);
  }

  private void backTheLastBytes() {
    b.says("Promise 3", "The last n bytes of the tape go: how many it has.");
    StoneHome x = new StoneHome();
    b.due("none of none", x.back(0), 0);
    x.feed(0, 0, 0, 0, 0);
    b.due("none", x.back(0), 20);
    b.due("one", x.back(1), 19);
    b.due("all but one", x.back(18), 1);
    b.due("the last one", x.back(1), 0);
    Scenes.fill(x, 2000);
    b.due("all of 2,000", x.back(2000), 0);
    Checks.feed(x, (BASE + "###").getBytes(StandardCharsets.ISO_8859_1));
    b.due("the last ones", x.back(3), BASE.length());
    b.due("the rest is as it was", x.read(), 0);
    nothingBehindTheEndIsRead();
  }

  private void backNoneIfNotSoMany() {
    b.says("Promise 3", "NONE, and nothing goes, if it has not so many, or n is below 0.");
    b.refused("one of none", Scenes::fresh, y -> y.back(1), -1);
    b.refused("21 of 20", Scenes::busy, y -> y.back(21), -1);
    b.refused("2,001 of 2,000", y -> Scenes.fill(y, 2000), y -> y.back(2001), -1);
    b.refusedAlways("back(-1)", y -> y.back(-1), -1);
    b.refusedAlways("back(least)", y -> y.back(Integer.MIN_VALUE), -1);
    b.refusedAlways("back(most)", y -> y.back(Integer.MAX_VALUE), -1);
  }

  private void nothingBehindTheEndIsRead() {
    String[] texts = {"row thth", "row row", "seed 1234", "row th;", BASE + "##", BASE + "seed 5;x"};
    int[] gone = {2, 2, 2, 1, 2, 1};
    int[] faults = {1, 1, 1, 1, 0, 0};
    for (int i = 0; i < texts.length; i++) {
      StoneHome x = new StoneHome();
      int left = texts[i].length() - gone[i];
      Checks.feed(x, texts[i].getBytes(StandardCharsets.ISO_8859_1));
      b.due("back", x.back(gone[i]), left);
      b.due("read of what is left of " + texts[i], x.read(), faults[i]);
      b.due("its place", x.place(), faults[i] == 0 ? -1 : left);
      b.due("behind that from empty", x.feed(0, 0, 0, 0, 0), 20);
    }
  }

  private void read() {
    b.says("Promise 4", "The tape, which is empty then, is read: 0, or the number of its FAULT.");
    String[] texts = {BASE, "#", "row th;".repeat(5), BASE + "kick k 6 by 1 0;", "faces 4;", "row x;", ""};
    int[] numbers = {0, 1, 2, 3, 5, 6, 7};
    StoneHome x = new StoneHome();
    for (int i = 0; i < texts.length; i++) {
      b.due("read", Checks.read(x, texts[i]), numbers[i]);
      b.due("the tape", x.count(6), 0);
      b.due("an empty tape", x.read(), 7);
      b.due("the tape", x.count(6), 0);
    }
  }

  private void place() {
    b.says("Promise 5", "The byte of the latest read()'s FAULT; NONE without.");
    StoneHome x = new StoneHome();
    b.due("no read yet", x.place(), -1);
    b.due("a fault at 0", Checks.read(x, "#"), 1);
    b.due("its place", x.place(), 0);
    Scenes.fill(x, 1999);
    x.feed(0, 0, 0, 0, 0);
    b.due("a feed that is refused, and all else, leaves it", x.place(), 0);
    b.due("a fault at the end of 1,999", x.read(), 7);
    b.due("its place", x.place(), 1999);
    Scenes.fill(x, 2000);
    b.due("a fault at the end of 2,000", x.read(), 7);
    b.due("its place", x.place(), 2000);
    x.kick(0);
    x.undo();
    b.due("its place", x.place(), 2000);
    b.due("no fault", Checks.read(x, BASE), 0);
    b.due("no place", x.place(), -1);
    b.due("the latest one", Checks.read(x, "row x;"), 6);
    b.due("its place", x.place(), 4);
  }

  private void nowEach() {
    b.says("Promise 6", "Now: what 0 ALONG, 1 ACROSS (-2 each if it is LOST), 2 FACE, 3 LIVES, 4 kicks and waits so far,"
        + " 5 the second, 6 touches, 7: 1 HOME, 2 LOST for good, else 0, 8 lives lost.");
    b.now(Scenes.of(Scenes::busy), 2, 0, 1, 1, 2, 14, 1, 0, 0);
    b.now(Scenes.of(Scenes::parked), 3, 0, 1, 1, 2, 14, 2, 0, 0);
    b.now(Scenes.of(Scenes::atHome), 5, 0, 1, 1, 2, 14, 4, 1, 0);
    b.now(Scenes.of(Scenes::lost), -2, -2, 1, 0, 4, 28, 1, 2, 1);
    StoneHome less = Scenes.of(Scenes::busy);
    less.kick(2);
    b.now(less, 2, 0, 1, 0, 3, 21, 1, 0, 1);
    StoneHome corner = b.on("row tttttttt;".repeat(4) + "faces 3;lives 2;stone 7 3 2;kick k 6 by 1 0;");
    b.now(corner, 7, 3, 2, 2, 0, 0, 0, 0, 0);
  }

  private void nowNoneForOthers() {
    b.says("Promise 6", "NONE for others.");
    b.ends("now", 0, 8, what -> Scenes.of(Scenes::busy).now(what));
    b.refusedAlways("now(-1)", x -> x.now(-1), -1);
    b.refusedAlways("now(9)", x -> x.now(9), -1);
  }

  private void square() {
    b.says("Promise 7", "The sort of a SQUARE (0 .. 6); NONE: no such one.");
    StoneHome x = b.on("row tcspgwht;row thwgpsct;kick k 6 by 1 0;");
    for (int along = 0; along < 7; along++) {
      b.due("square(" + along + ", 0)", x.square(along, 0), along);
      b.due("square(" + (along + 1) + ", 1)", x.square(along + 1, 1), 6 - along);
    }
    b.ends("along", 0, 7, along -> x.square(along, 1));
    b.ends("across", 0, 1, across -> x.square(0, across));
    StoneHome most = b.on("row tttttttt;".repeat(4) + "kick k 6 by 1 0;");
    b.ends("along of the widest", 0, 7, along -> most.square(along, 3));
    b.ends("across of the widest", 0, 3, across -> most.square(7, across));
    StoneHome one = b.on("row t;kick k 6 by 1 0;");
    b.ends("along of one", 0, 0, along -> one.square(along, 0));
    b.ends("across of one", 0, 0, across -> one.square(0, across));
    b.refusedAlways("square(-1, 0)", y -> y.square(-1, 0), -1);
    b.refusedAlways("square(0, -1)", y -> y.square(0, -1), -1);
    b.refusedAlways("square(6, 0)", y -> y.square(6, 0), -1);
    b.refusedAlways("square(0, 2)", y -> y.square(0, 2), -1);
  }

  private void cars() {
    b.says("Promise 8", "Whether CARS tell more than 0 at a SQUARE in a second (0 .. 9999): 1, else 0; NONE: no such ones.");
    StoneHome x = b.on("row tgwh;row tttp;kick k 6 by 1 0;cars=second-along*100-across*1000-sort;");
    for (int along = 0; along < 4; along++) {
      for (int across = 0; across < 2; across++) {
        int from = along * 100 + across * 1000 + x.square(along, across);
        b.due("cars tell 0", x.cars(along, across, from), 0);
        b.due("cars tell 1", x.cars(along, across, from + 1), 1);
      }
    }
    b.due("cars tell less", x.cars(0, 1, 999), 0);
    b.due("the last second", b.on(BASE + "cars=second-9998;").cars(0, 0, 9999), 1);
    b.due("the last second", b.on(BASE + "cars=second-9999;").cars(0, 0, 9999), 0);
    b.due("second 0", b.on(BASE + "cars=1-second;").cars(0, 0, 0), 1);
    b.ends("second", 0, 9999, second -> x.cars(0, 0, second));
    b.ends("along", 0, 3, along -> x.cars(along, 0, 0));
    b.ends("across", 0, 1, across -> x.cars(0, across, 0));
    b.refusedAlways("cars(0, 0, -1)", y -> y.cars(0, 0, -1), -1);
    b.refusedAlways("cars(0, 0, 10000)", y -> y.cars(0, 0, 10000), -1);
    b.refusedAlways("cars(6, 0, 0)", y -> y.cars(6, 0, 0), -1);
    b.refusedAlways("cars(0, 2, 0)", y -> y.cars(0, 2, 0), -1);
  }

  private void kickAnswers() {
    b.says("Promise 9", "A KICK: 0 it lies there, 1 HOME, 2 LOST for good, 3 a LIFE less;");
    StoneHome x = b.on("row tth;kick a 6 by 1 0;kick b 6 by 0 1;lives 1;");
    b.due("it lies there", x.kick(0), 0);
    b.due("a life less", x.kick(1), 3);
    b.due("lost for good", x.kick(1), 2);
    x.undo();
    b.due("home", x.kick(0), 1);
  }

  private void kickMinus2AndNothingHappens() {
    b.says("Promise 9", "-2, and nothing happens: it cannot be, HOME, LOST;");
    b.refused("it cannot be", Scenes::parked, y -> y.kick(1), -2);
    for (int kick = 0; kick < 3; kick++) {
      int which = kick;
      b.refusedWhenOver("kick(" + kick + ")", y -> y.kick(which), -2);
    }
  }

  private void kickNoneForNoSuchOne() {
    b.says("Promise 9", "NONE: no such one.");
    for (int kick : new int[] {-1, 3, 4, 5}) {
      b.refusedAlways("kick(" + kick + ")", y -> y.kick(kick), -1);
    }
    for (int far : FAR_OFF) {
      b.refused("kick(" + far + ")", Scenes::busy, y -> y.kick(far), -1);
    }
    b.refused("kick(1) of one kick", Scenes::fresh, y -> y.kick(1), -1);
    String four = "row t;kick a 6 by 0 0;kick b 6 by 0 0;kick c 6 by 0 0;kick d 6 by 0 0;";
    b.ends("kick", 0, 3, kick -> b.on(four).kick(kick));
  }

  private void waitsAsForKick() {
    b.says("Promise 10", "A WAIT: as for kick();");
    StoneHome x = b.on("row tth;kick k 6 by 1 0;lives 1;cars=second-5;");
    b.due("it lies there", x.waits(), 0);
    b.due("a life less", x.waits(), 3);
    b.due("lost for good", x.waits(), 2);
    b.due("three can be undone", x.count(7), 3);
  }

  private void waitsMinus2AndNothingHappens() {
    b.says("Promise 10", "-2, and nothing happens: HOME, LOST.");
    b.refusedWhenOver("waits()", StoneHome::waits, -2);
    b.refused("waits() at home from the beginning", y -> Checks.read(y, "row th;stone 1 0 0;kick k 6 by 1 0;"), StoneHome::waits, -2);
  }

  private void touchFourWays() {
    b.says("Promise 11", "A TOUCH (0 further ALONG, 1 back, 2 to the next ROW, 3 to the ROW ahead): true;");
    int[][] to = {{2, 1}, {0, 1}, {1, 2}, {1, 0}};
    for (int way = 0; way < 4; way++) {
      StoneHome x = b.on("row ttt;row ttt;row ttt;stone 1 1 0;kick k 6 by 1 0;");
      b.due("touch(" + way + ")", x.touch(way), true);
      b.due("along behind touch(" + way + ")", x.now(0), to[way][0]);
      b.due("across behind touch(" + way + ")", x.now(1), to[way][1]);
      b.due("can be undone", x.count(7), 1);
    }
  }

  private void touchFalseAndNothingHappens() {
    b.says("Promise 11", "false, and nothing happens: no such SQUARE, a gutter, a wall, HOME, LOST, no such way.");
    String corners = "row tttttttt;".repeat(4) + "kick k 6 by 1 0;";
    b.refused("back of the first", y -> Checks.read(y, corners), y -> Bounds.truth(y.touch(1)), 0);
    b.refused("ahead of the first row", y -> Checks.read(y, corners), y -> Bounds.truth(y.touch(3)), 0);
    b.refused("beyond the last", y -> Checks.read(y, corners + "stone 7 3 0;"), y -> Bounds.truth(y.touch(0)), 0);
    b.refused("behind the last row", y -> Checks.read(y, corners + "stone 7 3 0;"), y -> Bounds.truth(y.touch(2)), 0);
    everyEdge();
    b.refused("a wall", Scenes::parked, y -> Bounds.truth(y.touch(2)), 0);
    b.refused("a gutter", y -> Checks.read(y, "row tg;kick k 6 by 1 0;"), y -> Bounds.truth(y.touch(0)), 0);
    for (int way = 0; way < 4; way++) {
      int which = way;
      b.refusedWhenOver("touch(" + way + ")", y -> Bounds.truth(y.touch(which)), 0);
    }
    for (int way : new int[] {-1, 4, Integer.MIN_VALUE, Integer.MAX_VALUE}) {
      b.refusedAlways("touch(" + way + ")", y -> Bounds.truth(y.touch(way)), 0);
    }
  }

  private void everyEdge() {
    int[] along = {1, -1, 0, 0};
    int[] across = {0, 0, 1, -1};
    for (int from = 0; from < 32; from++) {
      for (int way = 0; way < 4; way++) {
        StoneHome x = b.on("row tttttttt;".repeat(4) + "stone " + from % 8 + " " + from / 8 + " 0;kick k 6 by 1 0;");
        int toAlong = from % 8 + along[way];
        int toAcross = from / 8 + across[way];
        boolean can = toAlong >= 0 && toAlong < 8 && toAcross >= 0 && toAcross < 4;
        b.due("touch(" + way + ") from " + from % 8 + ", " + from / 8, x.touch(way), can);
        b.due("along", x.now(0), can ? toAlong : from % 8);
        b.due("across", x.now(1), can ? toAcross : from / 8);
      }
    }
  }

  private void undoTheLastThingDone() {
    b.says("Promise 12", "The last thing done (kick, waits, touch) is undone: true;");
    StoneHome x = b.on("row tttt;faces 2;kick a 6 by 1 0 turn 1;kick b 6 by 0 1;lives 1;");
    x.kick(0);
    x.waits();
    x.touch(0);
    x.kick(1);
    x.kick(1);
    b.now(x, -2, -2, 1, 0, 4, 20, 1, 2, 1);
    b.due("undo()", x.undo(), true);
    b.now(x, 2, 0, 1, 0, 3, 15, 1, 0, 1);
    b.due("undo()", x.undo(), true);
    b.now(x, 2, 0, 1, 1, 2, 10, 1, 0, 0);
    b.due("undo()", x.undo(), true);
    b.now(x, 1, 0, 1, 1, 2, 10, 0, 0, 0);
    b.due("undo()", x.undo(), true);
    b.now(x, 1, 0, 1, 1, 1, 5, 0, 0, 0);
    b.due("undo()", x.undo(), true);
    b.now(x, 0, 0, 0, 1, 0, 0, 0, 0, 0);
    StoneHome home = Scenes.of(Scenes::atHome);
    b.due("from home", home.undo(), true);
    b.due("it is no more", home.now(7), 0);
  }

  private void undoTheLast50() {
    b.says("Promise 12", "false: there is none (the last 50 can be).");
    b.refused("nothing was done", Scenes::fresh, y -> Bounds.truth(y.undo()), 0);
    for (int things : new int[] {49, 50, 51, 99, 100, 101}) {
      undoAllOf(things);
    }
    b.refused("what was told, held, fed, refused is no thing done", y -> {
      y.hold(0);
      y.tell(0, 0);
      y.feed(0, 0, 0, 0, 0);
      y.kick(1);
      y.touch(1);
    }, y -> Bounds.truth(y.undo()), 0);
    undoneInTheMiddle();
  }

  private void undoAllOf(int things) {
    StoneHome x = b.on("row tt;kick k 6 by 0 0;");
    for (int i = 0; i < things; i++) {
      x.waits();
    }
    int most = Math.min(things, 50);
    b.due("things that can be undone of " + things, x.count(7), most);
    for (int i = 1; i <= most; i++) {
      b.due("undo " + i + " of " + things, x.undo(), true);
      b.due("waits left", x.now(4), things - i);
    }
    b.due("no more of " + things, x.undo(), false);
    b.due("waits left", x.now(4), things - most);
    b.due("none can be undone", x.count(7), 0);
  }

  /** What is done behind something undone goes over it, round the 50 too. */
  private void undoneInTheMiddle() {
    StoneHome x = b.on("row tt;kick k 6 by 0 0;");
    for (int i = 0; i < 60; i++) {
      x.waits();
    }
    for (int i = 0; i < 20; i++) {
      x.undo();
    }
    x.touch(0);
    b.due("30 and one", x.count(7), 31);
    b.due("the touch", x.undo() && x.now(6) == 0 && x.now(4) == 40, true);
    for (int i = 1; i <= 30; i++) {
      b.due("undo " + i, x.undo(), true);
    }
    b.due("no more", x.undo(), false);
    b.due("ten are left", x.now(4), 10);
  }

  private void brings(StoneHome x, int kick, int outcome, int... all) {
    for (int what = 0; what < 4; what++) {
      b.due("brings(" + kick + ", " + outcome + ", " + what + ")", x.brings(kick, outcome, what), all[what]);
    }
  }

  private void bringsWhere() {
    b.says("Promise 13", "Where an OUTCOME of a KICK brings it now: what 0 ALONG, 1 ACROSS, 2 FACE,"
        + " 3: 1 LOST (0 .. 2 then as it is behind that; -2 for good), else 0;");
    String text = "row ttp;row twh;faces 2;stone 1 0 1;kick a 2 by 1 1 turn 1 2 by 0 2 turn 1 2 by 0 1 turn 1;kick b 6 by 1 0;";
    StoneHome x = b.on(text + "lives 1;");
    brings(x, 0, 0, 2, 1, 0, 0);
    brings(x, 0, 1, 1, 0, 1, 1);
    brings(x, 0, 2, 1, 0, 0, 0);
    brings(x, 1, 0, 2, 0, 1, 0);
    StoneHome last = b.on(text);
    brings(last, 0, 1, -2, -2, -2, 1);
    brings(last, 0, 0, 2, 1, 0, 0);
    b.due("nothing is done by it", last.now(4) + last.count(7), 0);
    StoneHome later = b.on("row tttttttt;takes 3;kick k 6 by 1 0;runs=second/3;");
    for (int waits = 0; waits <= 5; waits++) {
      b.due("now is behind " + waits, later.brings(0, 0, 0), 1 + Math.min(waits, 4));
      later.waits();
    }
  }

  private void bringsNone() {
    b.says("Promise 13", "NONE: no such ones, it cannot be, HOME, LOST.");
    String four = "row t;kick a 6 by 0 0;kick b 6 by 0 0;kick c 6 by 0 0;kick d " + "1 by 0 0 ".repeat(6) + ";";
    b.ends("kick", 0, 3, kick -> b.on(four).brings(kick, 0, 0));
    b.ends("outcome", 0, 5, outcome -> b.on(four).brings(3, outcome, 0));
    b.ends("outcome of one", 0, 0, outcome -> b.on(four).brings(0, outcome, 0));
    b.ends("what", 0, 3, what -> b.on(four).brings(0, 0, what));
    b.refusedAlways("brings(3, 0, 0)", y -> y.brings(3, 0, 0), -1);
    b.refusedAlways("brings(-1, 0, 0)", y -> y.brings(-1, 0, 0), -1);
    b.refusedAlways("brings(0, 1, 0)", y -> y.brings(0, 1, 0), -1);
    b.refusedAlways("brings(0, -1, 0)", y -> y.brings(0, -1, 0), -1);
    b.refusedAlways("brings(0, 0, 4)", y -> y.brings(0, 0, 4), -1);
    b.refusedAlways("brings(0, 0, -1)", y -> y.brings(0, 0, -1), -1);
    for (int what = 0; what < 4; what++) {
      int which = what;
      b.refused("it cannot be", Scenes::parked, y -> y.brings(1, 0, which), -1);
      b.refusedWhenOver("brings(0, 0, " + what + ")", y -> y.brings(0, 0, which), -1);
    }
  }
}
