import java.util.function.Consumer;

/** Terms, I: what a text may tell, its faults, and what becomes of it. */
final class TextBounds {
  private static final String TERMS = "Terms";
  private static final String KICK = "kick k 6 by 1 0;";
  private static final String BASE = "row th;" + KICK;
  private static final int BASE_TOKENS = 10;
  private static final int TOKEN_ROOM = 400;

  private final Bounds b;

  TextBounds(Bounds b) {
    this.b = b;
  }

  void look() {
    rowsFourAtMostAllAsLong();
    eachLetterASquare();
    alongAndAcrossFromZeroOn();
    faces1To3();
    kicksFourAtMost();
    sixths1To6();
    far0To4();
    acrossMinus2To2();
    turns0To2();
    kicksNumberedFromZeroOn();
    lawsIfNotTold();
    stoneInTheBeginning();
    friendLikewise();
    lives0To2();
    takes1To99();
    seed0To9999();
    firstFaultByItsPlace();
    room401stToken();
    room5thRowOrKick();
    room7thOutcome();
    room5thIf();
    room7thParenthesis();
    twiceAtTheName();
    wrongAtTheInt();
    wrongSixthsAtTheName();
    streetAtTheRow();
    where();
    faultChangesNothing();
    inPlaceOfTheOneAhead();
    aheadOfAll();
  }

  /** The INT that stands for # in the text: both ends are taken; what is beyond them is WRONG at it. */
  private void ends(String text, int least, int most) {
    b.taken(text.replace("#", "" + least));
    b.taken(text.replace("#", "" + most));
    if (least > 0) {
      b.fault(text.replace("#", "" + (least - 1)), 5, text.indexOf('#'));
    }
    b.fault(text.replace("#", "" + (most + 1)), 5, text.indexOf('#'));
    b.fault(text.replace("#", "9999"), 5, text.indexOf('#'));
  }

  private void rowsFourAtMostAllAsLong() {
    b.says(TERMS, "ROWS, 4 at most, of the street, all as long as the first one:");
    for (int rows = 1; rows <= 4; rows++) {
      StoneHome x = b.on("row tth;".repeat(rows) + KICK);
      b.due("rows", x.count(1), rows);
      b.due("the last row", x.square(2, rows - 1), 6);
      b.due("no row behind it", x.square(0, rows), -1);
    }
    b.fault("row tth;".repeat(5) + KICK, 2, 32);
    for (int length = 1; length <= 8; length++) {
      StoneHome x = b.on("row " + "t".repeat(length) + ";row " + "c".repeat(length) + ";" + KICK);
      b.due("length", x.count(0), length);
      b.due("the last square", x.square(length - 1, 1), 1);
      b.due("no square behind it", x.square(length, 1), -1);
    }
    b.fault("row tth;row th;" + KICK, 6, 12);
    b.fault("row tth;row ttth;" + KICK, 6, 12);
    b.fault("row tth;row tth;row tt;row tth;" + KICK, 6, 20);
    b.fault("row tth;row tth;row tth;row tttttttt;" + KICK, 6, 28);
  }

  private void eachLetterASquare() {
    b.says(TERMS, "each letter a SQUARE: t tar 0, c cobbles 1, s slope 2, p a car that stands 3, g gutter 4, w wall 5, h home 6.");
    StoneHome x = b.on("row tcspgwh;" + KICK);
    for (int sort = 0; sort <= 6; sort++) {
      b.due("sort of " + "tcspgwh".charAt(sort), x.square(sort, 0), sort);
    }
    for (char letter = 'a'; letter <= 'z'; letter++) {
      if ("tcspgwh".indexOf(letter) >= 0) {
        b.taken("row t" + letter + ";" + KICK);
      } else {
        b.fault("row t" + letter + ";" + KICK, 6, 4);
      }
    }
  }

  private void alongAndAcrossFromZeroOn() {
    b.says(TERMS, "ALONG: the place of the letter, from 0 on; ACROSS: the number of the ROW, from 0 on.");
    StoneHome x = b.on("row tcttttts;row tttttttt;row tttttttt;row ptttttth;" + KICK);
    b.due("0, 0", x.square(0, 0), 0);
    b.due("1, 0", x.square(1, 0), 1);
    b.due("7, 0", x.square(7, 0), 2);
    b.due("0, 3", x.square(0, 3), 3);
    b.due("7, 3", x.square(7, 3), 6);
    b.due("-1, 0", x.square(-1, 0), -1);
    b.due("8, 0", x.square(8, 0), -1);
    b.due("0, -1", x.square(0, -1), -1);
    b.due("0, 4", x.square(0, 4), -1);
  }

  private void faces1To3() {
    b.says(TERMS, "FACES 1 .. 3 (1; the last one).");
    ends(BASE + "faces #;", 1, 3);
    b.due("not told", b.on(BASE).count(2), 1);
    b.due("the last one", b.on(BASE + "faces 3;faces 2;").count(2), 2);
    b.due("the last one", b.on("faces 1;" + BASE + "faces 3;").count(2), 3);
  }

  private void kicksFourAtMost() {
    b.says(TERMS, "KICKS, 4 at most (a NAME, OUTCOMES, 6 at most:");
    StringBuilder text = new StringBuilder("row th;");
    for (int kicks = 1; kicks <= 4; kicks++) {
      text.append("kick ").append((char) ('a' + kicks)).append(" 6 by 1 0;");
      b.due("kicks", b.on(text.toString()).count(3), kicks);
    }
    b.fault(text + "kick a 6 by 1 0;", 2, text.length());
    for (int outcomes = 1; outcomes <= 6; outcomes++) {
      String kick = "kick k " + "1 by 1 0 ".repeat(outcomes - 1) + (7 - outcomes) + " by 1 0;";
      b.due("outcomes", b.on("row th;" + kick).count(10), outcomes);
    }
    b.fault("row th;kick k " + "1 by 1 0 ".repeat(6) + "1 by 1 0;", 2, 14 + 54);
    b.fault("row th;kick k;", 5, 12);
    String six = "1 by 1 0 ".repeat(6) + ";";
    StoneHome full = b.on("row th;kick a " + six + "kick b " + six + "kick c " + six + "kick d " + six);
    b.due("outcomes of all", full.count(10), 24);
  }

  private void sixths1To6() {
    b.says(TERMS, "SIXTHS 1 .. 6,");
    b.taken("row th;kick k 1 by 1 0 5 by 0 0;");
    b.taken("row th;kick k 6 by 1 0;");
    b.fault("row th;kick k 0 by 1 0 6 by 0 0;", 5, 14);
    b.fault("row th;kick k 6 by 1 0 0 by 0 0;", 5, 23);
    b.fault("row th;kick k 7 by 1 0;", 5, 12);
  }

  private void far0To4() {
    b.says(TERMS, "by how far ALONG 0 .. 4,");
    ends("row th;kick k 6 by # 0;", 0, 4);
    b.due("by 0", b.on("row tttttttt;kick k 6 by 0 0;").brings(0, 0, 0), 0);
    b.due("by 4", b.on("row tttttttt;kick k 6 by 4 0;").brings(0, 0, 0), 4);
  }

  private void acrossMinus2To2() {
    b.says(TERMS, "ACROSS -2 .. 2,");
    ends("row th;kick k 6 by 1 #;", 0, 2);
    ends("row th;kick k 6 by 1 -#;", 0, 2);
    ends("row th;kick k 6 by 1 - #;", 0, 2);
    String five = "row ttt;row ttt;row ttt;row ttt;kick k 6 by 1 ";
    b.due("by 2", b.on(five + "2;stone 0 1 0;").brings(0, 0, 1), 3);
    b.due("by -2", b.on(five + "-2;stone 0 2 0;").brings(0, 0, 1), 0);
    b.due("by -0", b.on(five + "-0;stone 0 2 0;").brings(0, 0, 1), 2);
  }

  private void turns0To2() {
    b.says(TERMS, "by how many faces it TURNS 0 .. 2 (0)),");
    ends("row th;kick k 6 by 1 0 turn #;", 0, 2);
    b.due("not told", b.on("row tt;faces 3;kick k 6 by 1 0;").brings(0, 0, 2), 0);
    b.due("turn 2", b.on("row tt;faces 3;kick k 6 by 1 0 turn 2;").brings(0, 0, 2), 2);
    StoneHome mixed = b.on("row tt;faces 3;kick k 3 by 1 0 turn 1 3 by 0 0;kick l 6 by 1 0;");
    b.due("turn of the one ahead stays with it", mixed.brings(0, 1, 2), 0);
    b.due("turn of the kick ahead stays with it", mixed.brings(1, 0, 2), 0);
    StoneHome anew = b.on("row tt;faces 3;kick k 6 by 4 2 turn 2;");
    Checks.read(anew, "row tt;faces 3;kick k 6 by 1 0;");
    Checks.read(anew, "row tt;faces 3;kick k 6 by 1 0;");
    b.due("not told in a later text", anew.brings(0, 0, 2), 0);
  }

  private void kicksNumberedFromZeroOn() {
    b.says(TERMS, "numbered from 0 on.");
    StoneHome x = b.on("row ttttth;kick d 6 by 1 0;kick c 6 by 2 0;kick b 6 by 3 0;kick a 6 by 4 0;");
    for (int kick = 0; kick < 4; kick++) {
      b.due("kick " + kick, x.brings(kick, 0, 0), kick + 1);
    }
    b.due("kick -1", x.brings(-1, 0, 0), -1);
    b.due("kick 4", x.brings(4, 0, 0), -1);
  }

  private void lawsIfNotTold() {
    b.says(TERMS, "LAWS: DRIFT (0), RUNS (0), CARS (0), if not told; the last one.");
    StoneHome bare = b.on("row ttt;row ttt;row ttt;kick k 6 by 1 1;");
    b.due("runs", bare.brings(0, 0, 0), 1);
    b.due("drift", bare.brings(0, 0, 1), 1);
    b.due("cars", bare.cars(1, 1, 5), 0);
    StoneHome last = b.on("row ttt;row ttt;row ttt;drift=9/0;runs=2;cars=1;cars=0;drift=1;runs=1;kick k 6 by 1 1;");
    b.due("runs", last.brings(0, 0, 0), 2);
    b.due("drift", last.brings(0, 0, 1), 2);
    b.due("cars", last.cars(1, 1, 5), 0);
    Checks.read(last, BASE);
    b.due("cars of a text ahead", last.cars(0, 0, 5), 0);
    Checks.read(last, "row ttt;row ttt;row ttt;kick k 6 by 1 1;");
    b.due("runs of a text ahead of that", last.brings(0, 0, 0), 1);
    b.due("drift of a text ahead of that", last.brings(0, 0, 1), 1);
  }

  private void stoneInTheBeginning() {
    b.says(TERMS, "STONE: ALONG, ACROSS, FACE where it lies in the beginning 0 .. 9 each (0, 0, 0),");
    spotEnds("stone");
    StoneHome bare = b.on("row ttt;row ttt;faces 2;" + KICK);
    b.due("along, across, face", bare.now(0) * 100 + bare.now(1) * 10 + bare.now(2), 0);
    String wide = "row tttttttt;".repeat(4) + "faces 3;" + KICK;
    StoneHome corner = b.on(wide + "stone 7 3 2;");
    b.due("along, across, face", corner.now(0) * 100 + corner.now(1) * 10 + corner.now(2), 732);
    StoneHome last = b.on(wide + "stone 9 9 9;stone 1 2 0;");
    b.due("the last one", last.now(0) * 100 + last.now(1) * 10 + last.now(2), 120);
  }

  private void spotEnds(String word) {
    int at = BASE.length() + word.length() + 1;
    String nine = BASE + word + " 9 9 9;";
    b.fault(nine, 7, nine.length());
    b.taken(BASE + word + " 9 9 9;" + word + " 0 0 0;");
    b.fault(BASE + word + " 10 0 0;", 5, at);
    b.fault(BASE + word + " 0 10 0;", 5, at + 2);
    b.fault(BASE + word + " 0 0 10;", 5, at + 4);
    b.fault(BASE + word + " 10 0 0;" + word + " 0 0 0;", 5, at);
  }

  private void friendLikewise() {
    b.says(TERMS, "FRIEND: his stone likewise (0, 0, 0),");
    spotEnds("friend");
    String lane = "row ttth;kick k 6 by 2 0;stone 0 0 0;";
    StoneHome bare = b.on(lane);
    b.part("mine goes first from the same square", bare.first(2, false), bare.first(2, true), 1, 1);
    StoneHome ahead = b.on(lane + "friend 2 0 0;");
    b.part("his is ahead", ahead.first(2, false), ahead.first(2, true), 0, 1);
    StoneHome last = b.on(lane + "friend 2 0 0;friend 0 0 0;");
    b.part("the last one", last.first(2, false), last.first(2, true), 1, 1);
  }

  private void lives0To2() {
    b.says(TERMS, "LIVES 0 .. 2 (0),");
    ends(BASE + "lives #;", 0, 2);
    b.due("not told", b.on(BASE).now(3), 0);
    b.due("told", b.on(BASE + "lives 2;").now(3), 2);
    b.due("the last one", b.on(BASE + "lives 2;lives 1;").now(3), 1);
  }

  private void takes1To99() {
    b.says(TERMS, "TAKES: seconds for each kick 1 .. 99 (5),");
    ends(BASE + "takes #;", 1, 99);
    b.due("not told", b.on(BASE).count(4), 5);
    for (int takes : new int[] {1, 99}) {
      StoneHome x = b.on(BASE + "takes " + takes + ";");
      b.due("told", x.count(4), takes);
      x.waits();
      b.due("the second", x.now(5), takes);
    }
    b.due("the last one", b.on(BASE + "takes 1;takes 98;").count(4), 98);
  }

  private void seed0To9999() {
    b.says(TERMS, "SEED 0 .. 9999 (0): the last one.");
    b.taken(BASE + "seed 0;");
    b.taken(BASE + "seed 9999;");
    b.fault(BASE + "seed 10000;", 1, BASE.length() + 5);
    b.due("not told: as 0", lots(""), lots("seed 0;"));
    b.due("another one", lots("seed 0;") != lots("seed 9999;"), true);
    b.due("the last one", lots("seed 9999;seed 1;"), lots("seed 1;"));
    b.due("the last one", lots("seed 1;seed 9999;"), lots("seed 9999;"));
  }

  /** The outcomes of eight kicks, as digits. */
  private long lots(String seed) {
    StoneHome x = b.on("row tttttttt;kick k 1 by 0 0 1 by 1 0 1 by 2 0 1 by 3 0 2 by 4 0;runs=0-along;" + seed);
    long digits = 0;
    for (int i = 0; i < 8; i++) {
      x.kick(0);
      digits = digits * 10 + x.now(0);
    }
    return digits;
  }

  private void firstFaultByItsPlace() {
    b.says(TERMS, "FAULTS of a text, the first by its place (a byte; the text's end: its length), of one place the least:");
    b.fault("#" + "row tth;".repeat(5), 1, 0);
    b.fault("row tth;".repeat(5) + "#", 2, 32);
    b.fault("faces 0;faces 4;", 5, 6);
    b.fault("row x;faces 0;", 6, 4);
    b.fault("faces 0;row x;", 5, 6);
    b.fault("kick k 5 by 1 0;kick k 6 by 1 0;", 5, 5);
    b.fault("kick k 6 by 1 0;kick k 5 by 1 0;", 3, 21);
    b.fault("kick k 6 by 1 0;kick k 6 by 9 0;", 3, 21);
    b.fault("kick k 6 by 9 0;kick k 6 by 1 0;", 5, 12);
    b.fault("kick k 7 by 9 0;", 5, 5);
    b.fault("row", 1, 3);
    b.fault("row ", 1, 4);
    b.fault("row th; ", 7, 8);
  }

  private void room401stToken() {
    b.says(TERMS, "2 ROOM: a 401st TOKEN;");
    String full = BASE + "seed 1;".repeat((TOKEN_ROOM - BASE_TOKENS) / 3);
    b.taken(full);
    b.taken(full + "   ");
    for (String more : new String[] {"row", "faces", "kick", "drift", "runs", "cars", "stone", "friend", "lives", "takes", "seed"}) {
      b.fault(full + more, 2, full.length());
      b.fault(full + "  " + more + " #", 2, full.length() + 2);
    }
    for (String none : new String[] {"th", "1", ";", "#", "by", "abcdefghi", "12345"}) {
      b.fault(full + none, 1, full.length());
    }
    tokensAtTheEdge();
    mostTokens();
  }

  private void room5thRowOrKick() {
    b.says(TERMS, "a 5th row, a 5th kick (at its first TOKEN);");
    b.fault("row th;".repeat(4) + " row", 2, 29);
    b.fault("row th;".repeat(4) + "row 1;", 2, 28);
    String kicks = "kick a 6 by 1 0;kick b 6 by 1 0;kick c 6 by 1 0;kick d 6 by 1 0;";
    b.fault(kicks + " kick", 2, kicks.length() + 1);
    b.fault(kicks + "kick 1", 2, kicks.length());
    b.taken(kicks + "row th;".repeat(4));
  }

  private void room7thOutcome() {
    b.says(TERMS, "a 7th OUTCOME of a kick (at its INT);");
    String six = "kick a " + "1 by 0 0 ".repeat(6);
    b.taken("row th;" + six + ";");
    b.fault(six + "1", 2, six.length());
    b.fault(six + " 0 by", 2, six.length() + 1);
    b.fault(six + "by", 1, six.length());
    b.taken("row th;" + six + ";" + six.replace(" a ", " b ") + ";");
  }

  private void room5thIf() {
    b.says(TERMS, "a 5th if of a LAW (at it);");
    String four = "=" + "if 1 < 2 then 3 else ".repeat(4);
    b.taken(BASE + "drift" + four + "4;runs" + four + "4;cars" + four + "4;");
    b.fault("drift" + four + "if", 2, 5 + four.length());
    b.fault("runs" + four + " if 1 < 2 then 3 else 4;", 2, 5 + four.length());
  }

  private void room7thParenthesis() {
    b.says(TERMS, "a 7th ( within one another (at it).");
    parentheses();
  }

  private void tokensAtTheEdge() {
    String ahead = BASE + "seed 1;".repeat(128);
    String kick = ahead + "kick j 6 by 1 0";
    b.fault(kick + ";", 2, kick.length());
    b.fault(kick + " turn", 2, kick.length() + 1);
    b.fault(kick + " 1", 2, kick.length() + 1);
    b.fault(kick + " x", 1, kick.length() + 1);
    b.fault(kick, 1, kick.length());
    String law = ahead + "drift=1+1+";
    b.fault(law + "1", 2, law.length());
    b.fault(law + "along", 2, law.length());
    b.fault(law + "(", 2, law.length());
    b.fault(law + ";", 1, law.length());
    String stone = BASE + "seed 1;".repeat(128) + "row th;stone 0 0";
    b.fault(stone + " 0;", 2, stone.length() + 1);
    b.fault("row x;" + BASE + "seed 1;".repeat(129) + " seed", 2, 6 + BASE.length() + 129 * 7 + 1);
  }

  /** The most tokens that 2,000 bytes can be: the 401st is the fault, not the last. */
  private void mostTokens() {
    String text = BASE + "drift=" + "1+".repeat(980) + "1;";
    b.fault(text, 2, BASE.length() + 6 + TOKEN_ROOM - BASE_TOKENS - 2);
  }

  private void parentheses() {
    String six = "((((((1))))))";
    b.taken(BASE + "drift=" + six + ";");
    b.taken(BASE + "drift=" + six + "+" + six + "*" + six + ";");
    b.taken(BASE + "drift=if " + six + "<" + six + " then " + six + " else " + six + ";");
    b.taken(BASE + "drift=(((((" + "(1)+(1)" + ")))));");
    b.fault("drift=(((((((", 2, 12);
    b.fault("drift=(((((((1)))))));", 2, 12);
    b.fault("drift=(((((1+(2*(", 2, 16);
    b.fault("drift=((((((1)+(1))+((((((", 2, 22);
    b.fault("drift=(((((()", 1, 12);
  }

  private void twiceAtTheName() {
    b.says(TERMS, "If there is none, likewise: 3 TWICE: a NAME of a kick told already.");
    b.fault(BASE + "kick k 6 by 1 0;", 3, BASE.length() + 5);
    b.fault("row th;kick a 6 by 1 0;kick b 6 by 1 0;kick c 6 by 1 0;kick a 6 by 1 0;", 3, 60);
    b.fault("row th;kick abcdefgh 6 by 1 0;kick abcdefgh 6 by 1 0;", 3, 35);
    b.taken("row th;kick abcdefgh 6 by 1 0;kick abcdefgg 6 by 1 0;kick bbcdefgh 6 by 1 0;kick abcdefg 6 by 1 0;");
    b.taken("row th;kick a 6 by 1 0;kick aa 6 by 1 0;kick aaa 6 by 1 0;kick th 6 by 1 0;");
    namesThatDiffer();
    b.fault(BASE + "kick k 6 by 1 0;#", 1, BASE.length() + 16);
    b.fault(BASE + "kick k 6 by 1 0;" + "row th;".repeat(4), 2, BASE.length() + 16 + 21);
  }

  private void wrongAtTheInt() {
    b.says(TERMS, "5 WRONG (at the INT): a number not as told above;");
    b.fault(BASE + "faces  0;", 5, BASE.length() + 7);
    b.fault(BASE + "faces 0;faces 1;", 5, BASE.length() + 6);
    b.fault(BASE + "kick j 6 by 1 - 3;", 5, BASE.length() + 16);
    b.fault(BASE + "faces 0;#", 1, BASE.length() + 8);
    b.fault(BASE + "faces 0", 1, BASE.length() + 7);
    b.taken(BASE + "drift=9999*0000;");
  }

  private void wrongSixthsAtTheName() {
    b.says(TERMS, "(at the kick's NAME) SIXTHS that are not six together.");
    for (String sixths : new String[] {"", "1", "5", "7", "1 1 1 1 1", "2 1 1 1 1 1", "3 4", "6 1", "6 6", "9999 1"}) {
      String outcomes = sixths.replaceAll("(\\d+)", "$1 by 1 0");
      b.fault("row th;kick k " + outcomes + ";", 5, 12);
    }
    for (String sixths : new String[] {"6", "1 5", "5 1", "3 3", "2 2 2", "1 2 3", "1 1 1 1 1 1", "1 1 1 1 2"}) {
      b.taken("row th;kick k " + sixths.replaceAll("(\\d+)", "$1 by 1 0") + ";");
    }
  }

  private void streetAtTheRow() {
    b.says(TERMS, "6 STREET: (at it) a ROW with a letter that is none of these, or not as long as the first one.");
    b.fault("row x;" + KICK, 6, 4);
    b.fault("row  ttttttta;" + KICK, 6, 5);
    b.fault("row th;row tx;" + KICK, 6, 11);
    b.fault("row tx;row t;" + KICK, 6, 4);
    b.fault("row x;row th;#", 1, 13);
    b.fault("row x;" + "row t;".repeat(4), 2, 24);
    b.fault("row x;", 6, 4);
  }

  private void namesThatDiffer() {
    for (int place = 0; place < 8; place++) {
      for (char letter = 'a'; letter <= 'z'; letter++) {
        String other = "mmmmmmmm".substring(0, place) + letter + "mmmmmmmm".substring(place + 1);
        twoKicks("mmmmmmmm", other);
      }
    }
    for (char one = 'a'; one <= 'z'; one++) {
      for (char other = 'a'; other <= 'z'; other++) {
        twoKicks("q" + one, "q" + other);
        twoKicks(one + "q", other + "q");
        twoKicks(one + "a", other + "z");
        twoKicks("" + one, "" + other);
        twoKicks("" + one, "" + one + other);
      }
    }
  }

  private void twoKicks(String one, String other) {
    if ((one + " " + other).matches(".*\\b(by|if)\\b.*")) {
      return;
    }
    String text = "row h;kick " + one + " 6 by 1 0;kick " + other + " 6 by 1 0;";
    if (one.equals(other)) {
      b.fault(text, 3, 6 + 5 + one.length() + 10 + 5);
    } else {
      b.taken(text);
    }
  }

  private void where() {
    b.says(TERMS, "If there is none of all these: 7 WHERE (at the text's end): there are no ROWS, no KICKS,"
        + " or STONE or FRIEND is on no SQUARE, on a gutter, a wall, or has no such FACE.");
    b.fault(KICK, 7, 16);
    b.fault("row th;", 7, 7);
    b.fault("row th;  ", 7, 9);
    for (String word : new String[] {"stone", "friend"}) {
      String ahead = "row tgwpth;row tttttt;faces 2;" + KICK + word;
      for (String spot : new String[] {"0 0 0", "0 0 1", "3 0 0", "4 0 0", "5 0 0", "5 1 1"}) {
        b.taken(ahead + " " + spot + ";");
      }
      for (String spot : new String[] {"6 0 0", "0 2 0", "0 3 0", "9 9 0", "1 0 0", "2 0 0", "0 0 2", "0 0 3"}) {
        b.fault(ahead + " " + spot + ";", 7, ahead.length() + 7);
      }
    }
    b.fault("row gt;stone 1 0 0;" + KICK, 7, 35);
    b.fault("row wt;friend 1 0 0;" + KICK, 7, 36);
    b.taken("row wt;friend 1 0 0;stone 1 0 0;" + KICK);
    b.fault("row th;stone 0 0 1;faces 2;faces 1;" + KICK, 7, 51);
    b.taken("row th;stone 0 0 1;faces 1;faces 2;" + KICK);
    b.fault("row gh;row x;" + KICK, 6, 11);
    b.fault("row gh;faces 4;" + KICK, 5, 13);
  }

  private static final String[] FAULTY = {"row tt;#", "row hhh;".repeat(5), BASE + "kick k 6 by 0 0;", BASE + "faces 4;cars=1;",
      "row hhhh;kick a 6 by 0 0;lives 2;takes 9;seed 3;cars=1;row th;", "row hhhh;row hhhh;faces 3;lives 2;drift=1;stone 1 0 0;"};
  private static final int[] FAULTS = {1, 2, 3, 5, 6, 7};

  private void faultChangesNothing() {
    b.says(TERMS, "A text with a FAULT changes nothing but the tape;");
    for (int i = 0; i < FAULTY.length; i++) {
      for (Consumer<StoneHome> scene : Scenes.ALL) {
        StoneHome x = new StoneHome();
        StoneHome untouched = new StoneHome();
        scene.accept(x);
        scene.accept(untouched);
        x.back(x.count(6));
        untouched.back(untouched.count(6));
        b.due("read of " + FAULTY[i], Checks.read(x, FAULTY[i]), FAULTS[i]);
        b.same("all behind " + FAULTY[i], Picture.withoutPlace(x), Picture.withoutPlace(untouched));
      }
    }
    StoneHome later = new StoneHome();
    for (String faulty : FAULTY) {
      Checks.read(later, faulty);
    }
    b.due("a text behind them", Checks.read(later, BASE), 0);
    b.same("nothing of them is left", Picture.of(later), Picture.of(b.on(BASE)));
  }

  private void inPlaceOfTheOneAhead() {
    b.says(TERMS, "else it is in place of the one ahead: kick 0, second 0, the STONE as told, nothing can be undone,"
        + " nothing is TOLD, SLOTS hold nothing.");
    String text = "row ttt;row tth;faces 3;kick a 6 by 0 0;lives 2;stone 1 1 2;";
    for (Consumer<StoneHome> scene : Scenes.ALL) {
      StoneHome x = new StoneHome();
      scene.accept(x);
      x.back(x.count(6));
      b.due("read", Checks.read(x, text), 0);
      b.same("all is as the text tells", Picture.of(x), Picture.of(b.on(text)));
    }
    StoneHome x = b.on(text);
    int[] now = {1, 1, 2, 2, 0, 0, 0, 0, 0};
    for (int what = 0; what < now.length; what++) {
      b.due("now(" + what + ")", x.now(what), now[what]);
    }
    b.due("undo()", x.undo(), false);
    b.due("TOLD", x.count(8), 0);
    b.due("SLOTS", x.count(9), 0);
    StoneHome home = b.on("row th;stone 1 0 0;" + KICK);
    b.due("the STONE as told may be home", home.now(7), 1);
    everySlotIsEmptied();
    nothingOfTextsAhead();
    lawsOfManyTexts();
  }

  private void everySlotIsEmptied() {
    StoneHome x = b.on(BASE);
    for (int slot = 0; slot < 3; slot++) {
      x.hold(slot);
    }
    Checks.read(x, BASE);
    b.due("SLOTS", x.count(9), 0);
    for (int slot = 0; slot < 3; slot++) {
      b.due("restore(" + slot + ")", x.restore(slot), false);
    }
  }

  private static final String RICH = "row ttttttth;row hhhhhhhh;row ttttttth;row hhhhhhhh;faces 3;lives 2;takes 99;seed 9999;"
      + "stone 1 2 1;friend 6 0 2;drift=second/100;runs=1-second;cars=along-5;kick a 1 by 4 0 turn 1 5 by 3 -2 turn 2;"
      + "kick b 2 by 2 2 2 by 3 1 turn 1 2 by 4 0;kick c 6 by 4 2 turn 2;kick d 6 by 4 -2 turn 1;";

  /** A plain text behind a rich one, and behind that again, with all asked between them. */
  private void nothingOfTextsAhead() {
    String plain = "row ttth;kick k 3 by 1 0 3 by 0 0;";
    for (int plains = 1; plains <= 3; plains++) {
      StoneHome x = b.on(RICH);
      for (int i = 1; i <= plains; i++) {
        askAhead(x);
        b.due("read", Checks.read(x, plain), 0);
      }
      askAhead(x);
      b.due("lots of a seed that is not told", eightKicks(x), eightKicks(b.on(plain)));
      for (int i = 0; i < 8; i++) {
        x.undo();
      }
      b.same("all is as the text tells", Picture.of(x), Picture.of(b.on(plain)));
    }
    StoneHome asked = b.on("row tth;kick k 6 by 2 0;");
    b.part("home(1)", asked.home(1, false), asked.home(1, true), 1, 1);
    Checks.read(asked, "row tth;kick k 6 by 1 0;");
    b.part("home(1) of another text", asked.home(1, false), asked.home(1, true), 0, 1);
    b.due("best(1) of another text", asked.best(1), 0);
  }

  private static void askAhead(StoneHome x) {
    for (int n = 0; n <= 4; n++) {
      x.home(n, true);
      x.first(n, true);
      x.rule(0, n, true);
      x.trap(n);
    }
  }

  private static long eightKicks(StoneHome x) {
    long digits = 0;
    for (int i = 0; i < 8; i++) {
      x.kick(0);
      digits = digits * 10 + x.now(0);
    }
    return digits;
  }

  private void lawsOfManyTexts() {
    String law = "cars=" + "0+".repeat(180) + "second-";
    StoneHome x = new StoneHome();
    for (int i = 0; i < 8; i++) {
      b.due("read", Checks.read(x, BASE + law + i + ";"), 0);
      b.due("its own law", x.cars(0, 0, i), 0);
      b.due("its own law", x.cars(0, 0, i + 1), 1);
    }
  }

  private void aheadOfAll() {
    b.says(TERMS, "(Ahead of all there is one ROW, tar and home, one KICK of one OUTCOME, 1 ALONG, and all else as if not told.)");
    b.same("as if told", Picture.of(new StoneHome()), Picture.of(b.on("row th;kick k 6 by 1 0;")));
  }
}
