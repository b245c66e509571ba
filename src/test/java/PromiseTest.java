/** Each promise by itself: ordinary inputs, the edges that the document names, wrong inputs. */
public final class PromiseTest {
  private static final Checks C = new Checks("PromiseTest");

  /** Four squares in a row, one kick that is sure, one that is not. */
  private static final String LANE = "row ttth; kick one 6 by 1 0; kick two 3 by 2 0 3 by 0 0;";

  public static void main(String[] args) {
    newObject();
    feedAndBack();
    read();
    syntax();
    room();
    laterFaults();
    where();
    place();
    now();
    square();
    cars();
    laws();
    kick();
    kickLandings();
    lots();
    waits();
    touch();
    undo();
    brings();
    home();
    best();
    sureAndLeast();
    rule();
    comes();
    worth();
    face();
    side();
    goBy();
    plan();
    trap();
    first();
    can();
    tellAndForget();
    fitsAndOften();
    holdAndRestore();
    count();
    C.end();
  }

  private static void fault(String text, int number, int at) {
    StoneHome home = new StoneHome();
    C.due("read of " + text, Checks.read(home, text), number);
    C.due("place of " + text, home.place(), at);
    C.due("nothing changed by " + text, home.count(0) * 10 + home.count(1), 21);
    C.due("tape behind " + text, home.count(6), 0);
  }

  private static void whole(String text) {
    StoneHome home = new StoneHome();
    C.due("read of " + text, Checks.read(home, text), 0);
    C.due("place of " + text, home.place(), -1);
  }

  private static void home(StoneHome x, int n, int above, int below) {
    C.dueFraction("home(" + n + ")", x.home(n, false), x.home(n, true), above, below);
  }

  private static String times(String piece, int n) {
    return piece.repeat(n);
  }

  // Promise 1
  private static void newObject() {
    StoneHome x = new StoneHome();
    int[] counts = {2, 1, 1, 1, 5, 1, 0, 0, 0, 0, 1};
    for (int what = 0; what < counts.length; what++) {
      C.due("count(" + what + ") of a new one", x.count(what), counts[what]);
    }
    for (int what = 0; what <= 8; what++) {
      C.due("now(" + what + ") of a new one", x.now(what), 0);
    }
    C.due("place of a new one", x.place(), StoneHome.NONE);
    C.due("square 0", x.square(0, 0), 0);
    C.due("square 1", x.square(1, 0), 6);
    C.due("kick", x.kick(0), 1);
    C.due("along", x.now(0), 1);
    C.due("no undoing of nothing", new StoneHome().undo(), false);
    C.due("nothing held", new StoneHome().restore(0), false);
  }

  // Promises 2 and 3
  private static void feedAndBack() {
    StoneHome x = new StoneHome();
    C.due("back of nothing", x.back(0), 0);
    C.due("back of too much", x.back(1), -1);
    for (int i = 1; i <= 100; i++) {
      C.due("feed", x.feed(0x20202020, 0x20202020, 0x20202020, 0x20202020, 0x20202020), 20 * i);
    }
    C.due("feed beyond 2,000", x.feed(0, 0, 0, 0, 0), -1);
    C.due("bytes", x.count(6), 2000);
    C.due("back below 0", x.back(-1), -1);
    C.due("back of too much", x.back(2001), -1);
    C.due("back of the least", x.back(Integer.MIN_VALUE), -1);
    C.due("back", x.back(1), 1999);
    C.due("feed beyond 2,000", x.feed(0, 0, 0, 0, 0), -1);
    C.due("back", x.back(19), 1980);
    C.due("feed", x.feed(0, 0, 0, 0, 0), 2000);
    C.due("back of all", x.back(2000), 0);
    x.feed(0x726f7720, 0x74683b6b, 0x69636b20, 0x6b203620, 0x62792031);
    x.feed(0x20303b20, 0x23232323, -1, -1, -1);
    x.back(16);
    C.due("the highest byte of a first", x.read(), 0);
  }

  // Promise 4
  private static void read() {
    StoneHome x = C.on("row tttgw;row cspth;faces 3;kick a 6 by 1 1;kick b 3 by 4 - 2 turn 2 3 by 0 0 turn 0;"
        + "stone 1 1 2;friend 2 0 1;lives 2;takes 99;seed 9999;");
    int[] counts = {5, 2, 3, 2, 99, 1, 0, 0, 0, 0, 3};
    for (int what = 0; what < counts.length; what++) {
      C.due("count(" + what + ")", x.count(what), counts[what]);
    }
    C.due("along", x.now(0), 1);
    C.due("across", x.now(1), 1);
    C.due("face", x.now(2), 2);
    C.due("lives", x.now(3), 2);

    x.kick(0);
    x.touch(0);
    x.hold(0);
    x.tell(0, 0);
    C.due("a text with a fault", Checks.read(x, "row th;"), 7);
    C.due("slots stay", x.count(9), 1);
    C.due("told ones stay", x.count(8), 1);
    C.due("undoing stays", x.count(7), 2);
    C.due("the next text", Checks.read(x, LANE), 0);
    C.due("slots hold nothing", x.count(9), 0);
    C.due("nothing is told", x.count(8), 0);
    C.due("nothing can be undone", x.count(7), 0);
    for (int what = 0; what <= 8; what++) {
      C.due("all begins anew", x.now(what), 0);
    }
    C.due("what is not told is as in the beginning", x.count(2) * 1000 + x.count(4), 1005);

    whole("\t\n\r row th;kick k6by1 0;");
    whole("row th;kick k 6by1-0turn0;row th;");
    whole("row tttttttt;row tttttttt;row tttttttt;row tttttttt;kick k 1by0 0 1by0 0 1by0 0 1by0 0 1by0 0 1by0 0;");
    whole("row h;kick a 6 by 0 0;kick b 6 by 0 0;kick c 6 by 0 0;kick d 6 by 0 0;");
    whole("row th;kick k 0006 by 0001 0000;faces 2;faces 1;lives 2;lives 0;drift=1;drift=0;stone 0 0 1;stone 0 0 0;");
  }

  // Promise 4: SYNTAX
  private static void syntax() {
    fault("ro", 1, 0);
    fault(" ;", 1, 1);
    fault("row", 1, 3);
    fault("row  ", 1, 5);
    fault("row th", 1, 6);
    fault("row th,", 1, 6);
    fault("row th row", 1, 7);
    fault("row 1;", 1, 4);
    fault("row by;", 1, 4);
    fault("row second;", 1, 4);
    fault("row ttttttttt;", 1, 4);
    fault("rowth;", 1, 0);
    fault("Row th;", 1, 0);
    fault("kick turn 6 by 1 0;", 1, 5);
    fault("kick k 6 1 0;", 1, 9);
    fault("kick k 6 by - 1 0;", 1, 12);
    fault("kick k 6 by 1 - - 0;", 1, 16);
    fault("kick k 6 by 1;", 1, 13);
    fault("kick k 6 by 1 0 turn;", 1, 20);
    fault("kick k 00006 by 1 0;", 1, 7);
    fault("kick k - 6 by 1 0;", 1, 7);
    fault("faces - 1;", 1, 6);
    fault("stone 1 1;", 1, 9);
    fault("drift 1;", 1, 6);
    fault("drift = ;", 1, 8);
    fault("drift = 1 2;", 1, 10);
    fault("drift = (1;", 1, 10);
    fault("drift = 1);", 1, 9);
    fault("drift = ();", 1, 9);
    fault("drift = 1 +;", 1, 11);
    fault("drift = + 1;", 1, 8);
    fault("drift = (if 1 < 2 then 3 else 4);", 1, 9);
    fault("drift = if 1 then 2 else 3;", 1, 13);
    fault("drift = if 1 < 2 < 3 then 2 else 3;", 1, 17);
    fault("drift = if 1 < 2 then 3;", 1, 23);
    fault("drift = if 1 < 2 then 3 else;", 1, 28);
    fault("drift = 1 < 2;", 1, 10);
    fault("drift = lives;", 1, 8);
    fault("drift = k;", 1, 8);
    fault("row th;kick k 6 by 1 0;" + (char) 233, 1, 23);
    fault("row th;kick k 6 by 1 0;" + (char) 0, 1, 23);
    fault("row x;row th;faces 9;#", 1, 21);
  }

  // Promise 4: ROOM
  private static void room() {
    String base = "row th;kick k 6 by 1 0;";
    int baseTokens = 3 + 7;
    String full = base + times("seed 1;", 130);
    whole(full);
    C.due("tokens of the full text", baseTokens + 3 * 130, 400);
    fault(full + "seed 1;", 2, full.length());
    fault(full + " row", 2, full.length() + 1);
    fault(full + " th", 1, full.length() + 1);
    fault(full + " #", 1, full.length() + 1);
    String cut = base + times("seed 1;", 129) + "seed 12";
    fault(cut, 1, cut.length());
    String fuller = base + times("seed 1;", 129) + "faces 1";
    whole(fuller + ";");
    String atTheEdge = base + times("seed 1;", 128) + "kick j 6 by 1 0";
    fault(atTheEdge + ";", 2, atTheEdge.length());
    fault(atTheEdge + " turn", 2, atTheEdge.length() + 1);
    fault(atTheEdge + "+", 1, atTheEdge.length());
    fault(atTheEdge + " x", 1, atTheEdge.length() + 1);
    fault(atTheEdge + " ", 1, atTheEdge.length() + 1);

    fault(times("row th;", 4) + " row th;", 2, 29);
    fault(times("row th;", 4) + " row", 2, 29);
    String kicks = "kick a 6 by 1 0;kick b 6 by 1 0;kick c 6 by 1 0;kick d 6 by 1 0;";
    fault(kicks + "kick e 6 by 1 0;", 2, kicks.length());
    fault("kick a " + times("1 by 0 0 ", 6) + "1 by 0 0;", 2, 7 + 54);
    fault("kick a " + times("1 by 0 0 ", 6) + "1 ", 2, 7 + 54);
    String ifs = "drift = " + times("if 1 < 2 then 3 else ", 4);
    whole(base + ifs + "4;");
    fault(ifs + "if", 2, ifs.length());
    whole(base + "runs = ((((((1))))));");
    whole(base + "runs = ((((((1)))))) + ((((((1))))));");
    fault("runs = (((((((1)))))));", 2, 13);
    whole(base + "cars = if ((((((1)))))) < ((((((1)))))) then ((((((1)))))) else ((((((1))))));");
    fault("row x;faces 9;" + times("row th;", 3) + "row th;", 2, 14 + 21);
  }

  // Promise 4: TWICE, WRONG, STREET
  private static void laterFaults() {
    String base = "row th;kick k 6 by 1 0;";
    fault(base + "kick k 6 by 1 0;", 3, 28);
    fault(base + "kick k 5 by 1 0;", 3, 28);
    fault(base + "kick j 5 by 1 0;", 5, 28);
    fault(base + "kick j;", 5, 28);
    fault(base + "kick j 3 by 1 0 4 by 1 0;", 5, 28);
    fault(base + "kick j 0 by 1 0 6 by 1 0;", 5, 30);
    fault(base + "kick j 7 by 1 0;", 5, 28);
    fault(base + "kick j 6 by 5 0;", 5, 35);
    fault(base + "kick j 6 by 1 3;", 5, 37);
    fault(base + "kick j 6 by 1 - 3;", 5, 39);
    fault(base + "kick j 6 by 1 0 turn 3;", 5, 44);
    fault(base + "faces 0;", 5, 29);
    fault(base + "faces 4;", 5, 29);
    fault(base + "faces 4;faces 1;", 5, 29);
    fault(base + "lives 3;", 5, 29);
    fault(base + "takes 0;", 5, 29);
    fault(base + "takes 100;", 5, 29);
    fault(base + "stone 10 0 0;", 5, 29);
    fault(base + "stone 0 10 0;", 5, 31);
    fault(base + "friend 0 0 10;", 5, 34);
    fault("row x;", 6, 4);
    fault("row tx;row t;", 6, 4);
    fault("row th;row t;", 6, 11);
    fault("row th;row tth;", 6, 11);
    fault("faces 0;row x;", 5, 6);
    fault("row x;faces 0;", 6, 4);
    fault("kick a 6 by 9 0;kick a 6 by 1 0;", 5, 12);
    fault("kick a 6 by 1 0;kick a 6 by 9 0;", 3, 21);
    whole("row th;kick abcdefgh 6 by 1 0;kick abcdefgi 6 by 1 0;kick bcdefgh 6 by 1 0;");
    whole("row th;kick az 6 by 1 0;kick za 6 by 1 0;kick zz 6 by 1 0;kick a 6 by 1 0;");
    fault("row tz;kick az 6 by 1 0;kick az 6 by 1 0;", 6, 4);
    fault("row th;kick az 6 by 1 0;kick az 6 by 1 0;", 3, 29);
  }

  // Promise 4: WHERE
  private static void where() {
    fault("", 7, 0);
    fault("  ", 7, 2);
    fault("row th;", 7, 7);
    fault("kick k 6 by 1 0; ", 7, 17);
    String kick = "kick k 6 by 1 0;";
    fault("row gh;" + kick, 7, 23);
    fault("row wh;" + kick, 7, 23);
    fault("row gt;stone 1 0 0;" + kick, 7, 35);
    fault("row gt;friend 1 0 0;" + kick, 7, 36);
    whole("row gt;friend 1 0 0;stone 1 0 0;" + kick);
    whole("row ph;" + kick);
    whole("row h;" + kick);
    fault("row th;stone 2 0 0;" + kick, 7, 35);
    fault("row th;stone 0 1 0;" + kick, 7, 35);
    fault("row th;stone 0 0 1;" + kick, 7, 35);
    fault("row th;friend 0 0 1;" + kick, 7, 36);
    whole("row th;stone 0 0 1;faces 2;" + kick);
  }

  // Promise 5
  private static void place() {
    StoneHome x = new StoneHome();
    C.due("place ahead of a read", x.place(), -1);
    Checks.read(x, "row th;#");
    C.due("place", x.place(), 7);
    C.due("place again", x.place(), 7);
    Checks.read(x, LANE);
    C.due("place without a fault", x.place(), -1);
  }

  // Promise 6
  private static void now() {
    StoneHome x = C.on("row tth;row ttg;faces 3;kick a 6 by 1 0 turn 2;kick b 6 by 0 1 turn 1;lives 1;takes 7;stone 0 1 1;");
    due9(x, 0, 1, 1, 1, 0, 0, 0, 0, 0);
    x.kick(0);
    due9(x, 1, 1, 0, 1, 1, 7, 0, 0, 0);
    x.kick(0);
    due9(x, 1, 1, 0, 0, 2, 14, 0, 0, 1);
    x.touch(3);
    due9(x, 1, 0, 0, 0, 2, 14, 1, 0, 1);
    x.waits();
    due9(x, 1, 0, 0, 0, 3, 21, 1, 0, 1);
    x.kick(1);
    due9(x, 1, 1, 1, 0, 4, 28, 1, 0, 1);
    x.kick(1);
    due9(x, -2, -2, 1, 0, 5, 35, 1, 2, 1);
    x.undo();
    x.touch(3);
    x.kick(0);
    due9(x, 2, 0, 0, 0, 5, 35, 2, 1, 1);
    C.due("now(-1)", x.now(-1), -1);
    C.due("now(9)", x.now(9), -1);
    C.due("now(most)", x.now(Integer.MAX_VALUE), -1);
  }

  private static void due9(StoneHome x, int... all) {
    for (int what = 0; what < all.length; what++) {
      C.due("now(" + what + ")", x.now(what), all[what]);
    }
  }

  // Promise 7
  private static void square() {
    StoneHome x = C.on("row tcspgwh;row hwgpsct;kick k 6 by 1 0;");
    for (int along = 0; along < 7; along++) {
      C.due("square", x.square(along, 0), along);
      C.due("square", x.square(along, 1), 6 - along);
    }
    C.due("square", x.square(7, 0), -1);
    C.due("square", x.square(-1, 0), -1);
    C.due("square", x.square(0, 2), -1);
    C.due("square", x.square(0, -1), -1);
    C.due("square", x.square(Integer.MIN_VALUE, Integer.MAX_VALUE), -1);
  }

  // Promise 8
  private static void cars() {
    StoneHome x = C.on("row tgwh;row tttt;kick k 6 by 1 0;cars = second - along * 100 - across * 1000 - sort;");
    C.due("cars", x.cars(0, 0, 0), 0);
    C.due("cars", x.cars(0, 0, 1), 1);
    C.due("cars on a gutter", x.cars(1, 0, 104), 0);
    C.due("cars on a gutter", x.cars(1, 0, 105), 1);
    C.due("cars on a wall", x.cars(2, 0, 206), 1);
    C.due("cars at home", x.cars(3, 0, 306), 0);
    C.due("cars at home", x.cars(3, 0, 307), 1);
    C.due("cars", x.cars(0, 1, 1000), 0);
    C.due("cars", x.cars(0, 1, 9999), 1);
    C.due("cars", x.cars(0, 1, 10000), -1);
    C.due("cars", x.cars(0, 0, -1), -1);
    C.due("cars", x.cars(4, 0, 5), -1);
    C.due("cars", x.cars(0, 2, 5), -1);
    StoneHome y = C.on("row th;faces 2;stone 0 0 1;kick k 6 by 1 0;cars = 0 - which - face - hard;");
    C.due("which is -1, face and hard 0", y.cars(0, 0, 0), 1);
    StoneHome z = C.on("row th;kick k 6 by 1 0;cars = 0 - which - 1;");
    C.due("which is -1", z.cars(0, 0, 0), 0);
  }

  private static void law(String law, boolean more) {
    StoneHome x = C.on("row th;kick k 6 by 1 0;cars = " + law + ";");
    C.due("cars = " + law, x.cars(0, 0, 7), more ? 1 : 0);
  }

  // Terms II: LAWS
  private static void laws() {
    law("1", true);
    law("0", false);
    law("2 - 1 - 1", false);
    law("2 - (1 - 1)", true);
    law("1 - 2 * 3 + 6", true);
    law("1 - 2 * 3 + 5", false);
    law("8 / 4 / 2 - 1", false);
    law("8 / (4 / 2) - 3", true);
    law("7 / 2 - 3", false);
    law("1 + (0 - 7) / 2 + 2", false);
    law("1 + (0 - 7) / 2 + 3", true);
    law("2 * 3 / 4", true);
    law("2 / 4 * 3", false);
    law("1 / 0", false);
    law("5 + 1 / 0", false);
    law("5 + 0 * (1 / 0)", false);
    law("if 1 / 0 < 5 then 1 else 1", false);
    law("if 1 < 1 / 0 then 1 else 1", false);
    law("if 1 < 2 then 1 else 1 / 0", true);
    law("if 2 < 1 then 1 / 0 else 1", true);
    law("if 1 < 2 then 1 / 0 else 1", false);
    law("if 1 < 2 then 1 else if 1 / 0 < 1 then 1 else 1", true);
    law("if 1 < 1 then 0 else 1", true);
    law("if 1 < 2 then 0 else 1", false);
    law("if 2 < 1 then 0 else if 1 < 2 then 1 else 0", true);
    law("if 1 < 2 then 0 else if 1 < 2 then 1 else 1", false);
    law("if 2 < 1 then 0 else if 2 < 1 then 0 else if 2 < 1 then 0 else if 2 < 1 then 0 else 1", true);
    law("9999 * 9999 * 21", true);
    law("9999 * 9999 * 43", true);
    law("9999 * 9999 * 22", false);
    law("0 - 9999 * 9999 * 22", true);
    law("second - 6", true);
    law("second - 7", false);
    law("(0 - 8 * 16 * 16 * 16 * 16 * 16 * 16 * 16) / (0 - 1)", false);
    law("((((((1 + 2) * 3) + 4) * 5) + 6) * 7 - 497)", false);
    law("((((((1 + 2) * 3) + 4) * 5) + 6) * 7 - 496)", true);
    StoneHome last = C.on("row th;kick k 6 by 1 0;cars = 1;cars = second;cars = 0;");
    C.due("the last law", last.cars(0, 0, 7), 0);
  }

  // Promise 9
  private static void kick() {
    StoneHome x = C.on("row ttp;row tth;kick a 6 by 1 0;kick b 3 by 1 0 3 by 1 0;kick c 6 by 0 1;kick d 6 by 0 2;lives 1;");
    C.due("no such kick", x.kick(4), -1);
    C.due("no such kick", x.kick(-1), -1);
    C.due("a life less", x.kick(3), 3);
    C.due("it lies there", x.kick(0), 0);
    C.due("it lies there", x.kick(1), 0);
    C.due("on the car's square", x.now(0), 2);
    C.due("it cannot be", x.kick(1), -2);
    C.due("nothing happened", x.now(4), 3);
    C.due("nothing more to be undone", x.count(7), 3);
    C.due("home", x.kick(2), 1);
    C.due("home already", x.kick(0), -2);
    C.due("home already, no such kick", x.kick(4), -1);
    x.undo();
    C.due("lost for good", x.kick(3), 2);
    C.due("lost already", x.kick(0), -2);
    C.due("nothing happened", x.now(4), 4);
  }

  private static void lands(String text, int along, int across, int face, int answer) {
    StoneHome x = C.on(text);
    C.due("kick on " + text, x.kick(0), answer);
    C.due("along on " + text, x.now(0), along);
    C.due("across on " + text, x.now(1), across);
    C.due("face on " + text, x.now(2), face);
  }

  // Terms II: where a kick brings it
  private static void kickLandings() {
    String two = "row tttttttt;row tttttttt;row ttttwgth;row tttttttt;faces 3;";
    lands(two + "kick k 6 by 3 2 turn 2;stone 2 1 2;", 5, 3, 1, 0);
    lands(two + "kick k 6 by 4 0;stone 6 1 0;", 7, 1, 0, 0);
    lands(two + "kick k 6 by 4 1;stone 6 1 0;", 7, 2, 0, 1);
    lands(two + "kick k 6 by 1 0;runs = 9999;", 5, 0, 0, 0);
    lands(two + "kick k 6 by 4 0;runs = 9999;", 7, 0, 0, 0);
    lands(two + "kick k 6 by 1 0;runs = 0 - 9999;stone 6 0 0;", 3, 0, 0, 0);
    lands(two + "kick k 6 by 1 0;runs = 0 - 9999;stone 2 0 0;", 0, 0, 0, 0);
    lands(two + "kick k 6 by 0 0;drift = 9999;", 0, 2, 0, 0);
    lands(two + "kick k 6 by 0 - 1;drift = 3;stone 0 1 0;", 0, 2, 0, 0);
    lands(two + "kick k 6 by 0 1;drift = 3;", 0, 3, 0, 0);
    lands(two + "kick k 6 by 0 2;drift = 0 - 9999;stone 0 1 0;", 0, 1, 0, 0);
    lands(two + "kick k 6 by 2 0 turn 1;stone 2 2 2;", 2, 2, 0, 0);
    lands(two + "kick k 6 by 3 0 turn 1;stone 2 2 2;", -2, -2, 2, 2);
    lands(two + "kick k 6 by 3 0 turn 1;stone 2 2 2;lives 2;", 2, 2, 2, 3);
    lands(two + "kick k 6 by 1 - 1 turn 1;", -2, -2, 0, 2);
    lands(two + "kick k 6 by 1 - 1 turn 1;lives 1;", 0, 0, 0, 3);
    lands(two + "kick k 6 by 1 2 turn 1;stone 3 2 0;lives 1;", 3, 2, 0, 3);
    lands(two + "kick k 6 by 1 0;cars = 1;", -2, -2, 0, 2);
    lands(two + "kick k 6 by 1 0;cars = 1;stone 6 2 0;", 7, 2, 0, 1);
    lands(two + "kick k 6 by 2 0 turn 1;cars = 1;stone 2 2 0;", 2, 2, 1, 0);
    lands(two + "kick k 6 by 1 0;cars = if along < 1 then 1 else 0;", 1, 0, 0, 0);
    lands(two + "kick k 6 by 0 0;cars = 1;", -2, -2, 0, 2);
    lands(two + "kick k 6 by 1 0;takes 8;cars = second - 8;", 1, 0, 0, 0);
    lands(two + "kick k 6 by 1 0;takes 8;cars = second - 7;", -2, -2, 0, 2);
    lands(two + "kick k 6 by 1 0;takes 8;runs = second - 2;stone 4 0 0;", 3, 0, 0, 0);
    lands(two + "kick k 6 by 1 0;runs = hard;drift = face;stone 1 0 2;", 3, 2, 2, 0);
    lands(two + "kick k 6 by 1 0;runs = along;drift = across - 1;stone 1 1 0;", 3, 1, 0, 0);
    lands("row cccch;faces 2;kick k 6 by 0 0 turn 2;runs = sort + which;", 1, 0, 0, 0);
  }

  // Terms II: LOT. Worked out from the document's words in another language.
  private static void lots() {
    lotsOf(0, LOTS_OF_0);
    lotsOf(1, LOTS_OF_1);
    lotsOf(9999, LOTS_OF_9999);
  }

  private static final int[] LOTS_OF_0 = {0, 3, 4, 4, 5, 2, 4, 5, 2, 4, 1, 2};
  private static final int[] LOTS_OF_1 = {0, 1, 0, 1, 5, 0, 1, 0, 3, 5, 0, 3};
  private static final int[] LOTS_OF_9999 = {5, 4, 1, 2, 5, 3, 2, 1, 3, 2, 5, 3};

  private static void lotsOf(int seed, int[] lots) {
    StoneHome x = C.on("row tttttttt;row tttttttt;row tttttttt;row tttttttt;seed " + seed
        + ";kick k 1 by 0 0 1 by 1 0 1 by 2 0 1 by 3 0 1 by 4 0 1 by 0 1;runs = 0 - along;drift = 0 - across;");
    for (int i = 0; i < lots.length; i++) {
      x.kick(0);
      int lot = x.now(1) == 1 ? 5 : x.now(0);
      C.due("lot " + i + " of seed " + seed, lot, lots[i]);
    }
    StoneHome y = C.on("row tttttttt;seed " + seed + ";kick k 2 by 0 0 3 by 1 0 1 by 2 0;runs = 0 - along;");
    for (int i = 0; i < lots.length; i++) {
      if (i % 3 == 1) {
        y.waits();
      } else {
        y.kick(0);
        C.due("outcome by lot " + i + " of seed " + seed, y.now(0), lots[i] < 2 ? 0 : lots[i] < 5 ? 1 : 2);
      }
    }
  }

  // Promise 10
  private static void waits() {
    StoneHome x = C.on("row tth;kick k 6 by 1 0;cars = (second - 10) * (0 - 1) * (second - 20) + 1;lives 1;takes 5;");
    C.due("a wait", x.waits(), 0);
    C.due("hit at 10", x.waits(), 3);
    C.due("lives", x.now(3), 0);
    C.due("lives lost", x.now(8), 1);
    C.due("where it was", x.now(0), 0);
    C.due("hit at 15", x.waits(), 2);
    C.due("the second", x.now(5), 15);
    C.due("lost", x.now(7), 2);
    C.due("lives lost", x.now(8), 1);
    C.due("lost already", x.waits(), -2);
    C.due("nothing happened", x.now(4), 3);
    StoneHome y = C.on("row th;stone 1 0 0;kick k 6 by 1 0;");
    C.due("home from the beginning", y.now(7), 1);
    C.due("home already", y.waits(), -2);
  }

  // Promise 11
  private static void touch() {
    StoneHome x = C.on("row tth;row gtw;faces 2;stone 0 0 1;cars = 1;kick k 6 by 1 0;");
    C.due("no way", x.touch(-1), false);
    C.due("no way", x.touch(4), false);
    C.due("back of the first", x.touch(1), false);
    C.due("ahead of the first row", x.touch(3), false);
    C.due("a gutter", x.touch(2), false);
    C.due("touches", x.now(6), 0);
    C.due("nothing to be undone", x.count(7), 0);
    C.due("further", x.touch(0), true);
    C.due("the next row", x.touch(2), true);
    due9(x, 1, 1, 1, 0, 0, 0, 2, 0, 0);
    C.due("a wall", x.touch(0), false);
    C.due("a gutter", x.touch(1), false);
    C.due("behind the last row", x.touch(2), false);
    C.due("the row ahead", x.touch(3), true);
    C.due("back", x.touch(1), true);
    C.due("further", x.touch(0), true);
    C.due("home", x.touch(0), true);
    due9(x, 2, 0, 1, 0, 0, 0, 6, 1, 0);
    C.due("from home", x.touch(1), false);
    x.undo();
    x.waits();
    C.due("lost", x.now(7), 2);
    C.due("lost", x.touch(1), false);
    StoneHome y = C.on("row t;kick k 6 by 1 0;");
    C.due("beyond the last", y.touch(0), false);
  }

  // Promise 12
  private static void undo() {
    StoneHome x = C.on(LANE);
    for (int i = 0; i < 60; i++) {
      x.waits();
    }
    C.due("the last 50", x.count(7), 50);
    for (int i = 0; i < 50; i++) {
      C.due("undo", x.undo(), true);
      C.due("done", x.now(4), 59 - i);
    }
    C.due("no more", x.undo(), false);
    C.due("ten are left", x.now(4), 10);
    C.due("kick", x.kick(0), 0);
    C.due("touch", x.touch(0), true);
    C.due("undo", x.undo(), true);
    C.due("touches", x.now(6), 0);
    C.due("along", x.now(0), 1);
    C.due("undo", x.undo(), true);
    C.due("along", x.now(0), 0);
    C.due("no more", x.undo(), false);
    StoneHome y = C.on("row tth;kick k 6 by 0 1;lives 1;");
    y.kick(0);
    y.kick(0);
    C.due("lost", y.now(7), 2);
    y.undo();
    C.due("not lost", y.now(7), 0);
    C.due("lives", y.now(3), 0);
    y.undo();
    C.due("lives", y.now(3), 1);
    C.due("lives lost", y.now(8), 0);
    C.due("told and held are no things done", y.hold(0) && y.tell(0, 0) == 0 && !y.undo(), true);
  }

  // Promise 13
  private static void brings() {
    StoneHome x = C.on("row ttp;row tth;faces 2;stone 1 0 1;kick a 3 by 1 1 turn 1 3 by 0 2;kick b 6 by 1 0;lives 1;");
    dueBrings(x, 0, 0, 2, 1, 0, 0);
    dueBrings(x, 0, 1, 1, 0, 1, 1);
    dueBrings(x, 1, 0, 2, 0, 1, 0);
    C.due("nothing happened", x.now(4) + x.count(7), 0);
    C.due("no such kick", x.brings(2, 0, 0), -1);
    C.due("no such kick", x.brings(-1, 0, 0), -1);
    C.due("no such outcome", x.brings(0, 2, 0), -1);
    C.due("no such outcome", x.brings(0, -1, 0), -1);
    C.due("no such what", x.brings(0, 0, 4), -1);
    C.due("no such what", x.brings(0, 0, -1), -1);
    x.kick(1);
    C.due("it cannot be", x.brings(0, 0, 0), -1);
    dueBrings(x, 1, 0, 2, 0, 1, 0);
    x.touch(2);
    C.due("home", x.brings(1, 0, 0), -1);
    StoneHome y = C.on("row tth;kick k 6 by 0 1;");
    dueBrings(y, 0, 0, -2, -2, -2, 1);
    y.kick(0);
    C.due("lost", y.brings(0, 0, 3), -1);
  }

  private static void dueBrings(StoneHome x, int kick, int outcome, int... all) {
    for (int what = 0; what < 4; what++) {
      C.due("brings(" + kick + ", " + outcome + ", " + what + ")", x.brings(kick, outcome, what), all[what]);
    }
  }

  // Promise 14
  private static void home() {
    StoneHome x = C.on("row ttth;kick k 3 by 1 0 3 by 0 0;");
    home(x, 0, 0, 1);
    home(x, 2, 0, 1);
    home(x, 3, 1, 8);
    home(x, 4, 5, 16);
    home(x, 5, 1, 2);
    home(x, 10, 121, 128);
    C.due("no such n", x.home(11, true), -1);
    C.due("no such n", x.home(-1, true), -1);
    C.due("no such n", x.home(Integer.MIN_VALUE, false), -1);
    StoneHome most = C.on("row th;kick k 1 by 1 0 5 by 0 0;");
    home(most, 10, 60466176 - 9765625, 60466176);
    StoneHome lives = C.on("row th;lives 2;kick k 1 by 1 0 5 by 0 1;");
    home(lives, 1, 1, 6);
    home(lives, 2, 11, 36);
    home(lives, 3, 91, 216);
    home(lives, 10, 91, 216);
    StoneHome waits = C.on("row th;kick k 6 by 1 0;drift = if second < 15 then 1 else 0;");
    home(waits, 3, 0, 1);
    home(waits, 4, 1, 1);
    StoneHome barred = C.on("row th;kick k 6 by 1 0;drift = if second < 15 then 1 else 0;cars = 1;");
    home(barred, 4, 0, 1);
    StoneHome lost = C.on("row tth;kick k 6 by 1 1;");
    lost.kick(0);
    home(lost, 5, 0, 1);
    StoneHome there = C.on("row tth;kick k 6 by 1 1;stone 2 0 0;");
    home(there, 0, 1, 1);
    home(there, 7, 1, 1);
  }

  // Promise 15
  private static void best() {
    StoneHome x = C.on("row ttth;kick a 6 by 1 0;kick b 3 by 3 0 3 by 0 1;kick c 6 by 0 0;");
    C.due("best(1)", x.best(1), 1);
    C.due("best(2): of alike ones the first", x.best(2), 0);
    C.due("best(3)", x.best(3), 0);
    C.due("best(10): of alike ones the first", x.best(10), 0);
    C.due("no such n", x.best(0), -1);
    C.due("no such n", x.best(11), -1);
    StoneHome waits = C.on("row th;kick a 6 by 1 1;kick b 6 by 1 0;drift = if second < 5 then 1 else 0;");
    C.due("all alike", waits.best(1), 0);
    C.due("a wait", waits.best(2), 2);
    waits.waits();
    C.due("then the kick", waits.best(1), 1);
    StoneHome parked = C.on("row pth;kick a 3 by 2 0 3 by 2 0;kick b 6 by 1 0;");
    C.due("one that can be", parked.best(1), 1);
    C.due("one that can be", parked.best(2), 1);
    StoneHome none = C.on("row pth;kick a 3 by 2 0 3 by 2 0;");
    C.due("only a wait can be", none.best(3), 1);
    x.kick(0);
    x.kick(0);
    x.kick(0);
    C.due("home", x.best(1), -2);
    C.due("home, no such n", x.best(0), -1);
  }

  // Promises 16 and 17
  private static void sureAndLeast() {
    StoneHome x = C.on("row ttth;kick a 3 by 1 0 3 by 0 0;");
    C.due("sure(10)", x.sure(10), 0);
    C.due("sure(11)", x.sure(11), -1);
    C.due("sure(-1)", x.sure(-1), -1);
    C.due("least(0)", x.least(0), 0);
    C.due("least(12)", x.least(12), 3);
    C.due("least(13)", x.least(13), 4);
    C.due("least(31)", x.least(31), 4);
    C.due("least(32)", x.least(32), 5);
    C.due("least(50)", x.least(50), 5);
    C.due("least(51)", x.least(51), 6);
    C.due("least(94)", x.least(94), 10);
    C.due("least(95)", x.least(95), -2);
    C.due("least(100)", x.least(100), -2);
    C.due("least(101)", x.least(101), -1);
    C.due("least(-1)", x.least(-1), -1);
    StoneHome y = C.on(LANE);
    C.due("sure(2)", y.sure(2), 0);
    C.due("sure(3)", y.sure(3), 1);
    C.due("least(50)", y.least(50), 2);
    C.due("least(75)", y.least(75), 3);
    C.due("least(100)", y.least(100), 3);
    y.touch(0);
    y.touch(0);
    y.touch(0);
    C.due("home is sure", y.sure(0), 1);
    C.due("home", y.least(100), 0);
    StoneHome lost = C.on("row tth;kick k 6 by 1 1;");
    lost.kick(0);
    C.due("lost", lost.sure(10), 0);
    C.due("lost", lost.least(0), 0);
    C.due("lost", lost.least(1), -2);
  }

  // Promise 18
  private static void rule() {
    StoneHome x = C.on("row tpth;kick a 6 by 1 0;kick b 3 by 1 0 3 by 3 0;lives 1;");
    C.dueFraction("rule(0, 3)", x.rule(0, 3, false), x.rule(0, 3, true), 1, 1);
    C.dueFraction("rule(0, 2)", x.rule(0, 2, false), x.rule(0, 2, true), 0, 1);
    C.dueFraction("rule(1, 1)", x.rule(1, 1, false), x.rule(1, 1, true), 1, 2);
    C.dueFraction("rule(1, 10): it waits by the car", x.rule(1, 10, false), x.rule(1, 10, true), 1, 2);
    C.due("no such kick", x.rule(2, 1, true), -1);
    C.due("no such kick", x.rule(-1, 1, true), -1);
    C.due("no such n", x.rule(0, 11, true), -1);
    C.due("no such n", x.rule(0, -1, true), -1);
    StoneHome lost = C.on("row tth;kick k 6 by 1 1;");
    lost.kick(0);
    C.dueFraction("lost", lost.rule(0, 5, false), lost.rule(0, 5, true), 0, 1);
    StoneHome there = C.on("row tth;kick k 6 by 1 1;stone 2 0 0;");
    C.dueFraction("home", there.rule(0, 0, false), there.rule(0, 0, true), 1, 1);
  }

  private static void comes(StoneHome x, int n, int along, int across, int above, int below) {
    C.dueFraction("comes(" + n + ", " + along + ", " + across + ")", x.comes(0, n, along, across, false),
        x.comes(0, n, along, across, true), above, below);
  }

  // Promise 19
  private static void comes() {
    StoneHome x = C.on("row tth;row ggg;kick a 3 by 1 0 2 by 0 0 1 by 0 1;lives 1;");
    comes(x, 0, 0, 0, 1, 1);
    comes(x, 0, 1, 0, 0, 1);
    comes(x, 1, 1, 0, 1, 2);
    comes(x, 1, 0, 0, 1, 2);
    comes(x, 1, 0, 1, 0, 1);
    comes(x, 2, 2, 0, 1, 4);
    comes(x, 2, 0, 0, 2, 9);
    comes(x, 2, 1, 0, 1, 2);
    comes(x, 3, 2, 0, 1, 2);
    C.due("no such kick", x.comes(1, 0, 0, 0, false), -1);
    C.due("no such n", x.comes(0, 11, 0, 0, false), -1);
    C.due("no such n", x.comes(0, -1, 0, 0, false), -1);
    C.due("no such square", x.comes(0, 0, 3, 0, false), -1);
    C.due("no such square", x.comes(0, 0, 0, 2, false), -1);
    C.due("no such square", x.comes(0, 0, -1, 0, true), -1);
    x.touch(0);
    x.touch(0);
    comes(x, 5, 2, 0, 1, 1);
    comes(x, 5, 1, 0, 0, 1);
    StoneHome lost = C.on("row tth;kick k 6 by 1 1;");
    lost.kick(0);
    comes(lost, 0, 0, 0, 0, 1);
  }

  private static void worth(StoneHome x, int n, boolean life, int above, int below) {
    C.dueFraction("worth(" + n + ", " + life + ")", x.worth(n, life, false), x.worth(n, life, true), above, below);
  }

  // Promise 20
  private static void worth() {
    StoneHome x = C.on("row th;kick k 3 by 1 0 3 by 0 1;lives 2;");
    worth(x, 0, true, 0, 1);
    worth(x, 3, true, 0, 1);
    worth(x, 4, true, 1, 16);
    worth(x, 0, false, 1, 1);
    worth(x, 1, false, 1, 2);
    worth(x, 3, false, 1, 8);
    StoneHome y = C.on("row twh;row ttt;kick k 2 by 1 0 4 by 0 0;drift = 0 - across;");
    worth(y, 1, false, 0, 1);
    StoneHome z = C.on("row ttth;kick k 2 by 1 0 4 by 0 0;");
    worth(z, 3, false, 2, 9);
    C.due("no such n", z.worth(11, true, true), -1);
    C.due("no such n", z.worth(-1, false, true), -1);
    StoneHome there = C.on("row tth;kick k 6 by 1 1;stone 2 0 0;");
    worth(there, 5, true, 0, 1);
    worth(there, 5, false, 0, 1);
    StoneHome lost = C.on("row tth;kick k 6 by 1 1;");
    lost.kick(0);
    worth(lost, 5, true, 0, 1);
    worth(lost, 5, false, 0, 1);
  }

  // Promise 21
  private static void face() {
    StoneHome x = C.on("row tth;row ttt;faces 3;kick a 3 by 1 0 turn 1 3 by 1 0;runs = if face < 2 then 0 else 1;");
    C.due("face(0)", x.face(0), 0);
    C.due("face(1)", x.face(1), 2);
    C.due("face(2)", x.face(2), 0);
    C.due("no such n", x.face(11), -1);
    C.due("no such n", x.face(-1), -1);
    C.due("its own face stays", x.now(2), 0);
    x.touch(0);
    x.touch(0);
    C.due("home", x.face(1), -2);
    C.due("home, no such n", x.face(11), -1);
  }

  // Promise 22
  private static void side() {
    StoneHome x = C.on("row wttt;row ttth;row tttt;row gtth;kick a 6 by 1 0;stone 0 1 0;friend 0 1 0;");
    C.due("side(0): the first that is no wall", x.side(0), 1);
    C.due("side(3)", x.side(3), 1);
    x.touch(0);
    C.due("side(0)", x.side(0), 0);
    C.due("side(1)", x.side(1), 0);
    C.due("side(2)", x.side(2), 1);
    x.touch(2);
    C.due("side(2)", x.side(2), 1);
    StoneHome y = C.on("row tttt;row tpth;row tttt;kick a 6 by 1 1;");
    C.due("side(3)", y.side(3), 0);
    StoneHome z = C.on("row tttt;row thtt;kick a 6 by 1 0;stone 1 0 0;");
    C.due("home on that side", z.side(0), 1);
    C.due("no such n", z.side(11), -1);
    C.due("no such n", z.side(-1), -1);
    z.touch(2);
    C.due("home", z.side(0), -2);
  }

  // Promise 23
  private static void goBy() {
    StoneHome x = C.on("row tth;kick a 6 by 1 0;cars = if along < 1 then 0 else 26 - second;");
    C.due("goBy(0)", x.goBy(0), 0);
    C.due("goBy(1)", x.goBy(1), 0);
    C.due("goBy(2)", x.goBy(2), 5);
    C.due("goBy(3)", x.goBy(3), 4);
    C.due("goBy(7)", x.goBy(7), 0);
    C.due("no such n", x.goBy(11), -1);
    C.due("no such n", x.goBy(-1), -1);
    StoneHome late = C.on("row tth;kick a 6 by 1 0;cars = if along < 1 then 0 else 31 - second;");
    C.due("not even by five", late.goBy(2), 0);
    StoneHome hit = C.on("row tth;kick a 6 by 2 0;drift = if second < 10 then 1 else 0;cars = if second < 6 then 1 else 0;");
    C.due("lost meanwhile", hit.goBy(1), 0);
    StoneHome saved = C.on("row tth;lives 1;kick a 6 by 2 0;drift = if second < 10 then 1 else 0;cars = if second < 6 then 1 else 0;");
    C.due("with a life", saved.goBy(1), 2);
    x.touch(0);
    x.touch(0);
    C.due("home", x.goBy(1), -2);
  }

  // Promise 24
  private static void plan() {
    StoneHome x = C.on("row tpgh;row ttwt;faces 2;kick a 3 by 2 0 3 by 1 0;kick b 6 by 1 0;kick c 6 by 0 - 1 turn 1;"
        + "drift = if face < 1 then 0 else 1;lives 1;");
    C.due("home", x.plan(1, 3, 0), -2);
    C.due("a gutter", x.plan(1, 2, 0), -2);
    C.due("a wall", x.plan(1, 2, 1), -2);
    C.due("below home", x.plan(1, 3, 1), 2);
    C.due("by the car", x.plan(1, 1, 0), 1);
    C.due("no such n", x.plan(0, 0, 0), -1);
    C.due("no such n", x.plan(11, 0, 0), -1);
    C.due("no such square", x.plan(1, 4, 0), -1);
    C.due("no such square", x.plan(1, 0, 2), -1);
    C.due("no such square", x.plan(1, -1, 0), -1);
    StoneHome later = C.on("row th;row tt;kick a 6 by 1 0;kick b 6 by 1 - 1;runs = 4 * (second / 10 * 10 - second);");
    C.due("in the second that is now", later.plan(1, 0, 1), 1);
    later.waits();
    C.due("in the second that is now", later.plan(1, 0, 1), 0);
    StoneHome there = C.on("row tth;kick k 6 by 1 0;stone 2 0 0;");
    C.due("from elsewhere though it is home", there.plan(1, 1, 0), 0);
  }

  // Promise 25
  private static void trap() {
    StoneHome x = C.on("row ttth;row gwpt;kick a 6 by 1 0;kick b 3 by 1 - 1 3 by 1 - 1;");
    C.due("trap(0)", x.trap(0), 5);
    C.due("trap(1)", x.trap(1), 3);
    C.due("trap(2)", x.trap(2), 1);
    C.due("trap(3)", x.trap(3), 0);
    C.due("trap(11)", x.trap(11), -1);
    C.due("trap(-1)", x.trap(-1), -1);
    StoneHome y = C.on("row th;faces 2;kick a 6 by 1 0;drift = face;");
    C.due("with another face it is none", y.trap(1), 0);
    StoneHome z = C.on("row th;row tt;kick a 6 by 1 0;drift = 1;");
    C.due("all but home", z.trap(10), 3);
  }

  private static void first(StoneHome x, int n, int above, int below) {
    C.dueFraction("first(" + n + ")", x.first(n, false), x.first(n, true), above, below);
  }

  // Promise 26
  private static void first() {
    StoneHome x = C.on("row tth;kick a 3 by 1 0 3 by 0 0;friend 1 0 0;");
    first(x, 1, 0, 1);
    first(x, 2, 1, 8);
    first(x, 3, 3, 16);
    StoneHome even = C.on("row th;kick a 3 by 1 0 3 by 0 0;");
    first(even, 1, 1, 2);
    first(even, 2, 5, 8);
    first(even, 3, 21, 32);
    StoneHome sure = C.on("row ttth;kick a 6 by 1 0;friend 0 0 0;");
    first(sure, 2, 0, 1);
    first(sure, 3, 1, 1);
    StoneHome behind = C.on("row ttth;kick a 6 by 1 0;friend 1 0 0;");
    first(behind, 3, 0, 1);
    StoneHome his = C.on("row ttth;kick a 6 by 1 0;friend 3 0 0;");
    first(his, 3, 0, 1);
    StoneHome none = C.on("row th;kick a 3 by 1 0 3 by 0 1;lives 2;");
    first(none, 1, 1, 2);
    first(none, 3, 1, 2);
    StoneHome clock = C.on("row th;kick a 6 by 1 0;drift = if second < 10 then 1 else 0;");
    first(clock, 1, 0, 1);
    first(clock, 2, 1, 1);
    StoneHome choice = C.on("row tth;row gth;kick a 3 by 2 0 3 by 0 1;kick b 6 by 1 0;friend 1 1 0;");
    first(choice, 1, 1, 2);
    first(choice, 2, 1, 2);
    C.due("no such n", choice.first(0, true), -1);
    C.due("no such n", choice.first(4, true), -1);
    choice.touch(0);
    choice.touch(0);
    C.due("home", choice.first(1, true), -2);
    C.due("home, no such n", choice.first(4, true), -1);
    none.waits();
    StoneHome lost = C.on("row tth;kick k 6 by 1 1;");
    lost.kick(0);
    C.due("lost", lost.first(1, false), -2);
  }

  // Promise 27
  private static void can() {
    StoneHome x = C.on("row tph;kick a 3 by 1 0 3 by 1 0;kick b 6 by 1 0;kick c 3 by 1 0 3 by 1 0;kick d 6 by 1 1;");
    C.due("all", x.can(), 15);
    x.touch(0);
    C.due("by the car", x.can(), 10);
    x.kick(1);
    C.due("home", x.can(), 0);
    x.undo();
    x.kick(3);
    C.due("lost", x.can(), 0);
  }

  // Promises 28 and 29
  private static void tellAndForget() {
    StoneHome x = C.on("row tgwh;kick a 6 by 1 0;");
    C.due("nothing to forget", x.forget(), 0);
    C.due("no such square", x.tell(4, 0), -1);
    C.due("no such square", x.tell(0, 1), -1);
    C.due("no such square", x.tell(-1, 0), -1);
    for (int i = 0; i < 5; i++) {
      C.due("tell", x.tell(i % 4, 0), i);
    }
    C.due("5 are there", x.tell(0, 0), -1);
    C.due("count(8)", x.count(8), 5);
    C.due("forget", x.forget(), 5);
    C.due("count(8)", x.count(8), 0);
    C.due("tell", x.tell(1, 0), 0);
  }

  // Promises 30 and 31
  private static void fitsAndOften() {
    StoneHome x = C.on("row tttth;row tttgt;faces 2;kick a 4 by 1 0 2 by 1 0 turn 1;kick b 3 by 1 0 2 by 2 0 1 by 0 0;"
        + "kick c 6 by 0 1;drift = 0;runs = face;lives 2;");
    C.due("fits(0, NONE)", x.fits(0, -1), 1);
    C.due("fits(0, 0)", x.fits(0, 0), 0);
    C.due("fits(0, 1)", x.fits(0, 1), -1);
    C.due("often(0, 0)", x.often(0, 0), 1);
    C.due("often(0, NONE)", x.often(0, -1), -1);
    C.due("fits(1, NONE) of none", x.fits(1, -1), -1);
    C.due("fits(-1, NONE)", x.fits(-1, -1), -1);
    x.tell(1, 0);
    C.due("fits(1, NONE)", x.fits(1, -1), 2);
    C.due("fits(1, 0)", x.fits(1, 0), 0);
    C.due("fits(1, 1)", x.fits(1, 1), 1);
    C.due("fits(1, 2)", x.fits(1, 2), -1);
    C.due("fits(1, -2)", x.fits(1, -2), -1);
    C.due("often(1, 0)", x.often(1, 0), 6);
    C.due("often(1, 1)", x.often(1, 1), 3);
    C.due("often(1, 2)", x.often(1, 2), -1);
    x.tell(3, 0);
    C.due("fits(2, NONE)", x.fits(2, -1), 3);
    C.due("fits(2, 0): a, a", x.fits(2, 0), 0);
    C.due("fits(2, 1): a, b", x.fits(2, 1), 1);
    C.due("fits(2, 2): b, b", x.fits(2, 2), 5);
    C.due("often(2, 0)", x.often(2, 0), 12);
    C.due("often(2, 1)", x.often(2, 1), 4 * 2 + 2 * 3);
    C.due("often(2, 2)", x.often(2, 2), 3 * 2);
    C.due("fits(1, NONE)", x.fits(1, -1), 2);
    x.tell(3, 1);
    C.due("a gutter: lost", x.fits(3, -1), 0);
    C.due("none of these", x.often(3, 0), -1);
    x.forget();
    x.tell(0, 1);
    x.tell(0, 1);
    C.due("lost at the second by c, b stays", x.fits(2, -1), 1);
    C.due("c, b", x.fits(2, 0), 9);
    C.due("often", x.often(2, 0), 6);
    x.kick(0);
    C.due("from the text's stone on", x.fits(2, 0), 9);
    StoneHome parked = C.on("row pth;kick a 3 by 1 0 3 by 1 0;kick b 6 by 1 0;");
    parked.tell(1, 0);
    C.due("only what can be", parked.fits(1, -1), 1);
    C.due("only what can be", parked.fits(1, 0), 1);
    parked.tell(2, 0);
    parked.tell(2, 0);
    C.due("both home", parked.fits(2, -1), 2);
    C.due("no kick from home", parked.fits(3, -1), 0);
    StoneHome timed = C.on("row ttttt;kick a 6 by 1 0;takes 3;runs = second / 3;");
    timed.tell(1, 0);
    timed.tell(3, 0);
    timed.waits();
    C.due("from second 0 on", timed.fits(2, -1), 1);
    StoneHome all = C.on("row t;kick a 6 by 1 0;kick b 6 by 1 0;kick c 6 by 1 0;kick d 1 by 1 0 5 by 2 0;");
    for (int i = 0; i < 5; i++) {
      all.tell(0, 0);
    }
    C.due("all fit", all.fits(5, -1), 1024);
    C.due("the last", all.fits(5, 1023), 1023);
    C.due("not so many", all.fits(5, 1024), -1);
    C.due("no such k", all.fits(6, -1), -1);
    C.due("all of them", all.often(5, 1023), 7776);
  }

  // Promises 32 and 33
  private static void holdAndRestore() {
    StoneHome x = C.on("row tttt;row tttt;kick a 6 by 1 0;kick b 6 by 0 2;lives 1;");
    C.due("no such slot", x.hold(-1), false);
    C.due("no such slot", x.hold(3), false);
    C.due("no such slot", x.restore(-1), false);
    C.due("no such slot", x.restore(3), false);
    C.due("nothing held", x.restore(2), false);
    x.kick(0);
    x.touch(2);
    x.kick(1);
    x.tell(1, 1);
    C.due("hold", x.hold(2), true);
    x.kick(1);
    C.due("lost", x.now(7), 2);
    C.due("hold", x.hold(0), true);
    C.due("restore", x.restore(2), true);
    due9(x, 1, 1, 0, 0, 2, 10, 1, 0, 1);
    C.due("nothing can be undone", x.undo(), false);
    C.due("told ones stay", x.count(8), 1);
    x.kick(0);
    C.due("undo of what came behind", x.undo(), true);
    C.due("it stays there", x.restore(2), true);
    C.due("restore", x.restore(0), true);
    due9(x, -2, -2, 0, 0, 3, 15, 1, 2, 1);
    C.due("slots", x.count(9), 2);
    C.due("hold over it", x.restore(2) && x.hold(0) && x.restore(0), true);
    C.due("not lost", x.now(7), 0);
    x.kick(0);
    C.due("a restore that fails leaves what can be undone", x.restore(1), false);
    C.due("undo", x.undo(), true);
  }

  // Promise 34
  private static void count() {
    StoneHome x = C.on("row tthhh;row hhttt;faces 2;kick a 6 by 1 0;kick b 1 by 1 0 5 by 1 0;takes 9;");
    x.feed(0, 0, 0, 0, 0);
    x.waits();
    x.touch(0);
    x.tell(0, 0);
    x.hold(1);
    int[] counts = {5, 2, 2, 2, 9, 5, 20, 2, 1, 1, 3};
    for (int what = 0; what < counts.length; what++) {
      C.due("count(" + what + ")", x.count(what), counts[what]);
    }
    C.due("count(-1)", x.count(-1), -1);
    C.due("count(11)", x.count(11), -1);
    C.due("NONE", StoneHome.NONE, -1);
  }

  private PromiseTest() {
  }
}
