import java.util.function.ToLongFunction;

/** Terms, II: where a kick, a wait, a touch bring it, the laws, the lots. */
final class KickBounds {
  private static final String TERMS = "Terms";
  private static final String WIDE = "row tttttttt;".repeat(4) + "faces 3;";

  private final Bounds b;

  KickBounds(Bounds b) {
    this.b = b;
  }

  void look() {
    eachOutcomeAsLikelyAsItsSixths();
    runsHeldTo4();
    driftHeldTo2();
    faceRoundByFaces();
    beyondTheLastAlong();
    onAWall();
    lost();
    withLivesOrForGood();
    fromACarThatStands();
    atHomeItStays();
    firstIfThatHolds();
    intsThatWrap();
    dividedByZero();
    factsOfTheSquare();
    whichIsTheKicksNumber();
    hardIsTheOutcomesAlong();
    secondAsItIsKicked();
    aWait();
    byHand();
    aTouch();
    lots();
  }

  /** The kick's answer, then where it lies. */
  private void lands(String text, int answer, int along, int across, int face) {
    StoneHome x = b.on(text);
    b.due("kick on " + text, x.kick(0), answer);
    b.due("along on " + text, x.now(0), along);
    b.due("across on " + text, x.now(1), across);
    b.due("face on " + text, x.now(2), face);
  }

  private void eachOutcomeAsLikelyAsItsSixths() {
    b.says(TERMS, "A KICK from a SQUARE with a FACE, in a second: one of its OUTCOMES, each so likely as its SIXTHS:");
    int[][] lessened = {{1, 6}, {1, 3}, {1, 2}, {2, 3}, {5, 6}};
    for (int sixths = 1; sixths <= 5; sixths++) {
      StoneHome x = b.on("row th;kick k " + sixths + " by 1 0 " + (6 - sixths) + " by 0 0;");
      b.part(sixths + " sixths", x.home(1, false), x.home(1, true), lessened[sixths - 1][0], lessened[sixths - 1][1]);
    }
    StoneHome six = b.on("row th;kick k " + "1 by 1 0 ".repeat(6) + ";");
    b.part("six of one sixth", six.home(1, false), six.home(1, true), 1, 1);
    theLastOfAllOutcomes();
    sixOutcomesAheadOfAnotherKick();
    theFullestStreet();
  }

  /** The sixth outcome of the fourth kick, and the farthest square with the last face. */
  private void theLastOfAllOutcomes() {
    String none = "1 by 0 0 ".repeat(6) + ";";
    StoneHome x = b.on("row th;kick a " + none + "kick b " + none + "kick c " + none + "kick d " + "1 by 0 0 ".repeat(5) + "1 by 1 0;");
    b.due("brings(3, 5, 0)", x.brings(3, 5, 0), 1);
    b.due("best(1)", x.best(1), 3);
    b.part("home(1)", x.home(1, false), x.home(1, true), 1, 6);
    b.part("rule(3, 1)", x.rule(3, 1, false), x.rule(3, 1, true), 1, 6);
    b.part("first(1)", x.first(1, false), x.first(1, true), 1, 6);
    b.due("a wait", x.waits(), 0);
    b.due("a wait leaves it there", x.now(0), 0);
    StoneHome corner = b.on("row tttttttt;row tttttttt;row tttttttt;row ttttttht;faces 3;"
        + "stone 7 3 2;friend 7 3 2;kick k 6 by 0 0;runs=0-1;");
    b.part("home(1) from the corner", corner.home(1, false), corner.home(1, true), 1, 1);
    b.part("first(1) from the corner", corner.first(1, false), corner.first(1, true), 1, 1);
    b.due("best(1) from the corner", corner.best(1), 0);
    b.due("trap(1) but for the corner", corner.trap(1), 30);
    corner.tell(6, 3);
    b.due("fits(1, NONE) from the corner", corner.fits(1, -1), 1);
  }

  private void sixOutcomesAheadOfAnotherKick() {
    StoneHome x = b.on("row th;kick a " + "1 by 0 0 ".repeat(6) + ";kick b 6 by 1 0;friend 0 0 0;");
    b.part("rule(0, 1)", x.rule(0, 1, false), x.rule(0, 1, true), 0, 1);
    b.part("comes(0, 1, 0, 0)", x.comes(0, 1, 0, 0, false), x.comes(0, 1, 0, 0, true), 1, 1);
    b.due("best(1)", x.best(1), 1);
    b.part("first(1)", x.first(1, false), x.first(1, true), 1, 1);
    x.tell(1, 0);
    b.due("fits(1, NONE)", x.fits(1, -1), 1);
    b.due("fits(1, 0)", x.fits(1, 0), 1);
    StoneHome half = b.on("row th;kick a " + "1 by 1 0 1 by 0 0 ".repeat(3) + ";kick b 3 by 1 0 3 by 0 1;");
    b.part("first(1)", half.first(1, false), half.first(1, true), 1, 2);
    b.part("home(1)", half.home(1, false), half.home(1, true), 1, 2);
    StoneHome fewer = b.on("row th;kick a " + "1 by 1 0 ".repeat(6) + ";");
    Checks.read(fewer, "row th;kick a 6 by 0 0;");
    Checks.read(fewer, "row th;kick a 6 by 0 0;");
    b.part("outcomes of a text ahead", fewer.home(3, false), fewer.home(3, true), 0, 1);
    b.part("outcomes of a text ahead", fewer.first(3, false), fewer.first(3, true), 0, 1);
  }

  /** Every square with every face is one from which it can be kicked, in every way that there is. */
  private void theFullestStreet() {
    String kicks = "1 by 1 0 turn 1 1 by 1 0 1 by 1 0 turn 2 1 by 1 0 1 by 1 0 1 by 1 0;";
    StoneHome x = b.on(WIDE + "lives 2;kick a " + kicks + "kick b " + kicks + "kick c " + kicks + "kick d " + kicks
        + "drift=second*0;stone 0 3 2;friend 7 3 2;");
    for (int n = 0; n <= 10; n++) {
      int along = Math.min(n, 7);
      b.part("home(" + n + ")", x.home(n, false), x.home(n, true), 0, 1);
      b.part("comes(3, " + n + ", ..)", x.comes(3, n, along, 3, false), x.comes(3, n, along, 3, true), 1, 1);
      b.due("trap(" + n + ")", x.trap(n), 32);
      b.due("goBy(" + n + ")", x.goBy(n), 0);
      b.due("side(" + n + ")", x.side(n), 0);
      b.due("face(" + n + ")", x.face(n), 0);
      b.due("best(" + n + ")", x.best(n), n == 0 ? -1 : 0);
      b.due("first(" + n + ")", x.first(n, true), n >= 1 && n <= 3 ? 1 : -1);
      b.due("plan(" + n + ", 7, 3)", x.plan(n, 7, 3), n == 0 ? -1 : 0);
    }
    for (int told = 1; told <= 5; told++) {
      x.tell(told, 3);
      b.due("fits(" + told + ", NONE)", x.fits(told, -1), 1 << 2 * told);
    }
  }

  private void runsHeldTo4() {
    b.says(TERMS, "it comes so far ALONG, and what RUNS tells more (held to -4 .. 4);");
    int[] told = {0, 1, 3, 4, 5, 6, 9999};
    int[] more = {0, 1, 3, 4, 4, 4, 4};
    for (int i = 0; i < told.length; i++) {
      lands(WIDE + "kick k 6 by 0 0;runs=" + told[i] + ";", 0, more[i], 0, 0);
      lands(WIDE + "kick k 6 by 3 0;runs=" + told[i] + ";", 0, 3 + more[i], 0, 0);
      lands(WIDE + "kick k 6 by 0 0;runs=0-" + told[i] + ";stone 7 0 0;", 0, 7 - more[i], 0, 0);
      lands(WIDE + "kick k 6 by 4 0;runs=0-" + told[i] + ";stone 3 0 0;", 0, 7 - more[i], 0, 0);
    }
    lands(WIDE + "kick k 6 by 0 0;runs=9999*9999*21;", 0, 4, 0, 0);
    lands(WIDE + "kick k 6 by 0 0;runs=9999*9999*22;stone 7 0 0;", 0, 3, 0, 0);
    lands(WIDE + "kick k 6 by 0 0;runs=8*16*16*16*16*16*16*16;stone 7 0 0;", 0, 3, 0, 0);
    lands(WIDE + "kick k 6 by 0 0;runs=8*16*16*16*16*16*16*16-1;", 0, 4, 0, 0);
  }

  private void driftHeldTo2() {
    b.says(TERMS, "so far ACROSS, and what DRIFT tells more (held to -2 .. 2);");
    int[] told = {0, 1, 2, 3, 4, 9999};
    int[] more = {0, 1, 2, 2, 2, 2};
    for (int i = 0; i < told.length; i++) {
      lands(WIDE + "kick k 6 by 0 0;drift=" + told[i] + ";", 0, 0, more[i], 0);
      lands(WIDE + "kick k 6 by 0 1;drift=" + told[i] + ";", 0, 0, 1 + more[i], 0);
      lands(WIDE + "kick k 6 by 0 -2;drift=" + told[i] + ";stone 0 3 0;", 0, 0, 1 + more[i], 0);
      lands(WIDE + "kick k 6 by 0 0;drift=0-" + told[i] + ";stone 0 3 0;", 0, 0, 3 - more[i], 0);
      lands(WIDE + "kick k 6 by 0 2;drift=0-" + told[i] + ";stone 0 1 0;", 0, 0, 3 - more[i], 0);
    }
    lands(WIDE + "kick k 6 by 0 0;drift=9999*9999*21;", 0, 0, 2, 0);
    lands(WIDE + "kick k 6 by 0 0;drift=9999*9999*22;stone 0 3 0;", 0, 0, 1, 0);
    lands(WIDE + "kick k 6 by 0 0;drift=8*16*16*16*16*16*16*16;stone 0 3 0;", 0, 0, 1, 0);
  }

  private void faceRoundByFaces() {
    b.says(TERMS, "its FACE is so many further on, round by FACES.");
    for (int faces = 1; faces <= 3; faces++) {
      for (int turn = 0; turn <= 2; turn++) {
        for (int face = 0; face < faces; face++) {
          String text = "row tth;faces " + faces + ";kick k 6 by 1 0 turn " + turn + ";stone 0 0 " + face + ";";
          lands(text, 0, 1, 0, (face + turn) % faces);
        }
      }
    }
    StoneHome round = b.on("row t;faces 3;kick k 6 by 0 0 turn 2;");
    int[] faces = {2, 1, 0, 2, 1, 0};
    for (int face : faces) {
      round.kick(0);
      b.due("round and round", round.now(2), face);
    }
  }

  private void beyondTheLastAlong() {
    b.says(TERMS, "Beyond the last ALONG it is at the last, below 0 at 0.");
    lands("row ttttth;kick k 6 by 4 0;", 0, 4, 0, 0);
    lands("row ttttth;kick k 6 by 4 0;stone 1 0 0;", 1, 5, 0, 0);
    lands("row ttttth;kick k 6 by 4 0;stone 2 0 0;", 1, 5, 0, 0);
    lands("row ttttth;kick k 6 by 4 0;stone 4 0 0;runs=4;", 1, 5, 0, 0);
    lands("row ttttg;kick k 6 by 4 0;stone 3 0 0;", 2, -2, -2, 0);
    lands("row ttttw;kick k 6 by 4 0;stone 3 0 0;", 0, 3, 0, 0);
    lands("row tttttt;kick k 6 by 0 0;runs=0-4;stone 4 0 0;", 0, 0, 0, 0);
    lands("row tttttt;kick k 6 by 0 0;runs=0-4;stone 3 0 0;", 0, 0, 0, 0);
    lands("row tttttt;kick k 6 by 0 0;runs=0-4;", 0, 0, 0, 0);
    lands("row htttt;kick k 6 by 1 0;runs=0-4;stone 1 0 0;", 1, 0, 0, 0);
    lands("row t;kick k 6 by 4 0;runs=4;", 0, 0, 0, 0);
    lands("row t;kick k 6 by 0 0;runs=0-4;", 0, 0, 0, 0);
    lands("row tttttttt;kick k 6 by 4 0;stone 4 0 0;", 0, 7, 0, 0);
  }

  private void onAWall() {
    b.says(TERMS, "On a wall it stays where it was kicked, its FACE turned.");
    lands("row twt;faces 3;kick k 6 by 1 0 turn 2;stone 0 0 2;", 0, 0, 0, 1);
    lands("row twt;faces 3;kick k 6 by 2 0 turn 2;stone 0 0 2;", 0, 2, 0, 1);
    lands("row ttt;row wtt;faces 2;kick k 6 by 0 1 turn 1;", 0, 0, 0, 1);
    lands("row twt;faces 2;kick k 6 by 1 0 turn 1;lives 2;", 0, 0, 0, 1);
    lands("row pwt;faces 2;kick k 6 by 1 0 turn 1;", 0, 0, 0, 1);
    StoneHome wall = b.on("row twh;faces 2;kick k 6 by 1 0 turn 1;lives 2;takes 9;");
    wall.kick(0);
    b.due("a kick more", wall.now(4), 1);
    b.due("its seconds went by", wall.now(5), 9);
    b.due("no life less", wall.now(3), 2);
    // A choice where the document is silent: what stays comes to no square, so no cars bar it.
    lands("row twt;faces 2;kick k 6 by 1 0 turn 1;cars=1;", 0, 0, 0, 1);
  }

  private void lost() {
    b.says(TERMS, "Beyond the first or the last ROW, on a gutter, or where CARS tell more than 0 as it comes there"
        + " (but not at home): it is LOST:");
    String four = "row ttt;row ttt;row ttt;row ttt;";
    lands(four + "kick k 6 by 0 -2;stone 0 2 0;", 0, 0, 0, 0);
    lands(four + "kick k 6 by 0 -2;stone 0 1 0;", 2, -2, -2, 0);
    lands(four + "kick k 6 by 0 -1;", 2, -2, -2, 0);
    lands(four + "kick k 6 by 0 2;stone 0 1 0;", 0, 0, 3, 0);
    lands(four + "kick k 6 by 0 2;stone 0 2 0;", 2, -2, -2, 0);
    lands(four + "kick k 6 by 0 1;stone 0 3 0;", 2, -2, -2, 0);
    lands(four + "kick k 6 by 0 2;drift=2;stone 0 3 0;", 2, -2, -2, 0);
    lands("row tt;kick k 6 by 1 1;", 2, -2, -2, 0);
    lands("row tt;kick k 6 by 1 -1;", 2, -2, -2, 0);
    lands("row tgt;kick k 6 by 1 0;", 2, -2, -2, 0);
    lands("row tgt;kick k 6 by 2 0;", 0, 2, 0, 0);
    lands("row ttt;kick k 6 by 1 0;cars=0;", 0, 1, 0, 0);
    lands("row ttt;kick k 6 by 1 0;cars=0-1;", 0, 1, 0, 0);
    lands("row ttt;kick k 6 by 1 0;cars=1;", 2, -2, -2, 0);
    lands("row ttt;kick k 6 by 1 0;cars=9999*9999*21;", 2, -2, -2, 0);
    lands("row ttt;kick k 6 by 1 0;cars=9999*9999*22;", 0, 1, 0, 0);
    lands("row thh;kick k 6 by 1 0;cars=1;", 1, 1, 0, 0);
    lands("row ttt;kick k 6 by 0 0;cars=1;", 2, -2, -2, 0);
    lands("row tttt;kick k 6 by 2 0;cars=if along<2 then 1 else 0;", 0, 2, 0, 0);
    lands("row tttt;kick k 6 by 2 0;cars=if along<3 then along-1 else 0;", 2, -2, -2, 0);
    lands("row tpt;kick k 6 by 1 0;", 0, 1, 0, 0);
  }

  private void withLivesOrForGood() {
    b.says(TERMS, "with LIVES it is where it was kicked, its FACE as it was then, a LIFE less; else for good.");
    for (int lives = 0; lives <= 2; lives++) {
      StoneHome x = b.on("row ttg;faces 2;kick k 6 by 1 0 turn 1;stone 1 0 1;lives " + lives + ";");
      for (int left = lives; left > 0; left--) {
        b.due("a life less", x.kick(0), 3);
        b.now(x, 1, 0, 1, left - 1, lives - left + 1, (lives - left + 1) * 5, 0, 0, lives - left + 1);
      }
      b.due("for good", x.kick(0), 2);
      b.now(x, -2, -2, 1, 0, lives + 1, (lives + 1) * 5, 0, 2, lives);
      b.due("no more", x.kick(0), -2);
    }
  }

  private void fromACarThatStands() {
    b.says(TERMS, "From a SQUARE with a car that stands only a KICK of just one OUTCOME can be.");
    StoneHome x = b.on("row pth;kick a 6 by 1 0;kick b 3 by 1 0 3 by 1 0;kick c " + "1 by 1 0 ".repeat(6) + ";");
    b.due("which can be", x.can(), 1);
    b.due("two outcomes", x.kick(1), -2);
    b.due("six outcomes", x.kick(2), -2);
    b.due("one outcome", x.kick(0), 0);
    b.due("elsewhere all can be", x.can(), 7);
    for (char sort : new char[] {'t', 'c', 's'}) {
      StoneHome y = b.on("row " + sort + "th;kick a 6 by 1 0;kick b 3 by 1 0 3 by 1 0;");
      b.due("which can be from " + sort, y.can(), 3);
    }
    StoneHome none = b.on("row pth;kick b 3 by 1 0 3 by 1 0;");
    b.due("none can be", none.can(), 0);
    b.due("a wait can", none.waits(), 0);
  }

  private void atHomeItStays() {
    b.says(TERMS, "At home it stays.");
    StoneHome x = b.on("row tht;kick k 6 by 1 0;cars=second-5;");
    x.kick(0);
    b.due("a kick", x.kick(0), -2);
    b.due("a wait", x.waits(), -2);
    b.due("a touch", x.touch(0), false);
    b.part("behind ten by the rule", x.comes(0, 10, 1, 0, false), x.comes(0, 10, 1, 0, true), 1, 1);
    StoneHome y = b.on("row tht;kick k 6 by 1 0;cars=1;");
    b.part("behind ten by the rule", y.comes(0, 10, 1, 0, false), y.comes(0, 10, 1, 0, true), 1, 1);
    b.part("behind ten by the rule", y.comes(0, 10, 2, 0, false), y.comes(0, 10, 2, 0, true), 0, 1);
  }

  /** The formula is just that number, one less or one more is not. */
  private void is(String formula, String value) {
    String test = "row tc;row ts;faces 3;kick k 6 by 1 0;cars=if " + formula + "<" + value + " then 0 else if " + value + "<"
        + formula + " then 0 else 1;";
    b.due(formula + " is " + value, b.on(test).cars(1, 1, 7), 1);
  }

  private void tells(String law, int more) {
    b.due("cars=" + law, b.on("row th;kick k 6 by 1 0;cars=" + law + ";").cars(0, 0, 7), more);
  }

  private void firstIfThatHolds() {
    b.says(TERMS, "LAWS: the E of the first if that holds (one less than the other), else the last one;");
    tells("if 1<2 then 1 else 0", 1);
    tells("if 2<2 then 1 else 0", 0);
    tells("if 3<2 then 1 else 0", 0);
    tells("if 0-1<0 then 1 else 0", 1);
    tells("if 0<0-1 then 1 else 0", 0);
    tells("if 8*16*16*16*16*16*16*16<0-1 then 1 else 0", 1);
    tells("if 0-1<8*16*16*16*16*16*16*16-1 then 1 else 0", 1);
    for (int holds = 0; holds <= 4; holds++) {
      for (int then = 0; then <= 4; then++) {
        StringBuilder law = new StringBuilder();
        for (int i = 0; i < 4; i++) {
          law.append(i < holds ? "if 1<1 then " : "if 1<2 then ").append(i == then ? 1 : 0).append(" else ");
        }
        tells(law + (then == 4 ? "1" : "0"), holds == then ? 1 : 0);
      }
    }
  }

  private void intsThatWrap() {
    b.says(TERMS, "ints of 32 bits that wrap, / rounded towards 0;");
    String least = "8*16*16*16*16*16*16*16";
    is(least + "/16/16/16/16", "(0-9*9*9*9*5+37)");
    is("(" + least + "-1)/16/16/16/16", "9*9*9*9*5-38");
    tells(least, 0);
    tells(least + "-1", 1);
    tells("0-" + least, 0);
    tells("(" + least + "-1)+1", 0);
    tells(least + "*2+1", 1);
    tells(least + "*2", 0);
    is("9999*9999*9999/9999/9999", "(0-10)");
    is(least + "/(0-1)/16/16/16/16", "(0-9*9*9*9*5+37)");
    is("7/2", "3");
    is("(0-7)/2", "(0-3)");
    is("7/(0-2)", "(0-3)");
    is("(0-7)/(0-2)", "3");
    is("1/2", "0");
    is("7/1", "7");
    is("7/(0-1)", "(0-7)");
    is("0-9999/1", "(0-9999)");
    is("(0-1)/2", "0");
    is("0/5", "0");
    is("7-2-1", "4");
    is("7-(2-1)", "6");
    is("2+3*4", "14");
    is("(2+3)*4", "20");
    is("24/4/2", "3");
    is("24/4*2", "12");
    is("2*7/4", "3");
    is("1-8/4*3+5*2-1", "4");
    is("((((((2*3)+1)*3)+1)*3)+1)*3", "201");
  }

  private void dividedByZero() {
    b.says(TERMS, "a LAW in which something that is looked at is divided by 0 is 0.");
    String lane = "row tttttttt;stone 3 0 0;kick k 6 by 1 0;runs=";
    for (String zero : new String[] {"1/0", "3+1/0", "1/0+3", "0/0", "3*(1/(2-2))", "3-1/(1/2)", "if 1/0<5 then 2 else 3",
        "if 1<5/0 then 2 else 3", "if 1<2 then 1/0 else 3", "if 2<1 then 3 else 1/0", "if 2<1 then 3 else if 1/0<1 then 2 else 2",
        "2+0*(1/0)", "9999*9999*9999/(5-5)"}) {
      lands(lane + zero + ";", 0, 4, 0, 0);
    }
    lands(lane + "if 1<2 then 2 else 1/0;", 0, 6, 0, 0);
    lands(lane + "if 2<1 then 1/0 else 2;", 0, 6, 0, 0);
    lands(lane + "if 1<2 then 2 else if 1/0<1 then 3 else 3;", 0, 6, 0, 0);
    lands(lane + "0/5+2;", 0, 6, 0, 0);
    lands("row ttt;row ttt;row ttt;kick k 6 by 1 1;drift=2+1/0;", 0, 1, 1, 0);
    lands("row ttt;kick k 6 by 1 0;cars=2+1/0;", 0, 1, 0, 0);
    lands("row tttttttt;kick k 6 by 1 0;runs=2/second;", 0, 1, 0, 0);
  }

  private void factsOfTheSquare() {
    b.says(TERMS, "along, across, face, sort: of the SQUARE where it is kicked (CARS: to which it comes; face 0);");
    String street = "row tttttttt;row tttstttt;row tttttttt;row ttttpttt;faces 3;";
    lands(street + "kick k 6 by 1 0;stone 3 1 2;runs=along;", 0, 7, 1, 2);
    lands(street + "kick k 6 by 1 0;stone 3 1 2;runs=across;", 0, 5, 1, 2);
    lands(street + "kick k 6 by 1 0 turn 1;stone 3 1 2;runs=face;", 0, 6, 1, 0);
    lands(street + "kick k 6 by 1 0;stone 3 1 2;runs=sort;", 0, 6, 1, 2);
    lands(street + "kick k 6 by 0 0;stone 2 1 1;drift=along;", 0, 2, 3, 1);
    lands(street + "kick k 6 by 0 0;stone 2 1 1;drift=face;", 0, 2, 2, 1);
    lands(street + "kick k 6 by 1 2;stone 3 1 0;cars=along*100+across*10+sort-432;", 2, -2, -2, 0);
    lands(street + "kick k 6 by 1 2;stone 3 1 0;cars=along*100+across*10+sort-433;", 0, 4, 3, 0);
    lands(street + "kick k 6 by 1 0 turn 1;stone 3 1 1;cars=face;", 0, 4, 1, 2);
  }

  private void whichIsTheKicksNumber() {
    b.says(TERMS, "which: the KICK's number (CARS: -1);");
    StoneHome x = b.on("row tttttttt;kick a 6 by 1 0;kick b 6 by 1 0;kick c 6 by 1 0;kick d 6 by 1 0;runs=which;");
    for (int kick = 0; kick < 4; kick++) {
      b.due("runs by kick " + kick, x.brings(kick, 0, 0), 1 + kick);
    }
    b.due("cars=0-which", b.on("row th;kick k 6 by 1 0;cars=0-which;").cars(0, 0, 0), 1);
    b.due("cars=0-which-1", b.on("row th;kick k 6 by 1 0;cars=0-which-1;").cars(0, 0, 0), 0);
  }

  private void hardIsTheOutcomesAlong() {
    b.says(TERMS, "hard: how far ALONG the OUTCOME tells (CARS: 0);");
    StoneHome hard = b.on("row tttttttt;kick k 2 by 0 0 2 by 2 0 2 by 3 0;runs=hard;");
    b.due("0 and 0", hard.brings(0, 0, 0), 0);
    b.due("2 and 2", hard.brings(0, 1, 0), 4);
    b.due("3 and 3", hard.brings(0, 2, 0), 6);
    lands("row tttttttt;kick k 6 by 4 0;cars=hard;", 0, 4, 0, 0);
  }

  private void secondAsItIsKicked() {
    b.says(TERMS, "second: as it is kicked (CARS: as it comes, TAKES later).");
    StoneHome second = b.on("row tttttttt;kick k 6 by 1 0;takes 2;runs=second;");
    second.kick(0);
    b.due("in second 0", second.now(0), 1);
    second.kick(0);
    b.due("in second 2", second.now(0), 4);
    lands("row tttt;kick k 6 by 1 0;takes 2;cars=second-1;", 2, -2, -2, 0);
    lands("row tttt;kick k 6 by 1 0;takes 2;cars=second-2;", 0, 1, 0, 0);
    secondOfEachLaw();
  }

  /** Each law looks at the second for itself, whatever the others, told ahead or behind, look at. */
  private void secondOfEachLaw() {
    String[] timed = {"drift=if second<10 then 1 else 0;", "runs=if second<10 then 0-4 else 0;", "cars=if along<1 then 0 else 14-second;"};
    String[] plain = {"drift=0;", "runs=0;", "cars=0;"};
    for (int law = 0; law < 3; law++) {
      for (int one = 0; one < 3; one++) {
        int other = 3 - law - one;
        if (one != law) {
          inThirdStep(plain[one] + plain[other] + timed[law], law);
          inThirdStep(plain[one] + timed[law] + plain[other], law);
          inThirdStep(timed[law] + plain[one] + plain[other], law);
          inThirdStep(plain[law] + timed[law] + plain[one] + plain[other], law);
        }
      }
    }
  }

  /** Free from second 10 on (of CARS, for what comes in second 15): from tar to home in three, by way of tar in four. */
  private void inThirdStep(String laws, int law) {
    StoneHome x = b.on((law == 2 ? "row tth;" : "row th;") + "kick k 6 by 1 0;" + laws);
    int steps = law == 2 ? 4 : 3;
    b.part("home(" + (steps - 1) + ") with " + laws, x.home(steps - 1, false), x.home(steps - 1, true), 0, 1);
    b.part("home(" + steps + ") with " + laws, x.home(steps, false), x.home(steps, true), 1, 1);
  }

  private void aWait() {
    b.says(TERMS, "A WAIT: TAKES seconds go by; then, where it lies, if CARS tell more than 0 there (not at home),"
        + " it is LOST likewise (it stays there with a LIFE less).");
    StoneHome x = b.on("row ttt;faces 2;stone 1 0 1;lives 1;takes 99;kick k 6 by 1 0;cars=second-198;");
    b.due("in second 99", x.waits(), 0);
    b.due("in second 198", x.waits(), 0);
    b.due("in second 297", x.waits(), 3);
    b.now(x, 1, 0, 1, 0, 3, 297, 0, 0, 1);
    b.due("in second 396", x.waits(), 2);
    b.now(x, -2, -2, 1, 0, 4, 396, 0, 2, 1);
    b.due("CARS tell 0", b.on("row tt;kick k 6 by 1 0;cars=second-5;").waits(), 0);
    b.due("CARS tell 1", b.on("row tt;kick k 6 by 1 0;cars=second-4;").waits(), 2);
    b.due("elsewhere", b.on("row tt;kick k 6 by 1 0;cars=along;").waits(), 0);
  }

  /** Of the seed 0 the lots are 0, 3, 4, 4, 5, 2, worked out from the document's words in another language. */
  private void byHand() {
    b.says(TERMS, "By hand: a KICK: the first OUTCOME with which the SIXTHS so far, together, are more than LOT 6 of the SEED"
        + " and the number of kicks and waits so far; a WAIT;");
    String lane = "row tttttttt;runs=0-along;kick k ";
    outcomes(lane + "1 by 0 0 1 by 1 0 1 by 2 0 1 by 3 0 2 by 4 0;", 0, 3, 4, 4, 4, 2);
    outcomes(lane + "3 by 1 0 3 by 2 0;", 1, 2, 2, 2, 2, 1);
    outcomes(lane + "4 by 1 0 2 by 2 0;", 1, 1, 2, 2, 2, 1);
    outcomes(lane + "5 by 1 0 1 by 2 0;", 1, 1, 1, 1, 2, 1);
    outcomes(lane + "1 by 1 0 5 by 2 0;", 1, 2, 2, 2, 2, 2);
    outcomes(lane + "2 by 1 0 1 by 2 0 3 by 3 0;", 1, 3, 3, 3, 3, 2);
    outcomes(lane + "6 by 3 0;", 3, 3, 3, 3, 3, 3);
    StoneHome x = b.on(lane + "3 by 1 0 3 by 2 0;");
    x.waits();
    x.touch(0);
    x.kick(0);
    b.due("a wait counts, a touch does not", x.now(0), 2);
    x.undo();
    x.undo();
    x.undo();
    x.kick(0);
    b.due("what is undone does not count", x.now(0), 1);
  }

  private void outcomes(String text, int... along) {
    StoneHome x = b.on(text);
    for (int i = 0; i < along.length; i++) {
      x.kick(0);
      b.due("kick " + i + " on " + text, x.now(0), along[i]);
    }
  }

  private void aTouch() {
    b.says(TERMS, "a TOUCH: the stone is laid one SQUARE further (ALONG or ACROSS, one way or the other), no gutter, no wall,"
        + " its FACE as it is: touches are 1 more.");
    String nine = "row tct;row sth;row tpt;faces 3;stone 1 1 2;cars=1;kick k 6 by 1 0;";
    int[][] to = {{2, 1}, {0, 1}, {1, 2}, {1, 0}};
    for (int way = 0; way < 4; way++) {
      StoneHome x = b.on(nine);
      b.due("touch(" + way + ")", x.touch(way), true);
      b.now(x, to[way][0], to[way][1], 2, 0, 0, 0, 1, way == 0 ? 1 : 0, 0);
    }
    for (char none : new char[] {'g', 'w'}) {
      String shut = "row t-t;row -t-;row t-t;stone 1 1 0;kick k 6 by 1 0;".replace('-', none);
      for (int way = 0; way < 4; way++) {
        b.refused("touch(" + way + ") towards " + none, x -> Checks.read(x, shut), touch(way), 0);
      }
    }
    for (int way = 0; way < 4; way++) {
      b.refused("touch(" + way + ") off the street", x -> Checks.read(x, "row t;kick k 6 by 1 0;"), touch(way), 0);
    }
  }

  private static ToLongFunction<StoneHome> touch(int way) {
    return x -> x.touch(way) ? 1 : 0;
  }

  private void lots() {
    b.says(TERMS, "LOT n of a SEED and a which: h is the SEED; for each of 55, which: h becomes (h and it, each bit of which is"
        + " in just one) times 1103515245 and 12345 more, then h and h moved 15 bits down (zeros come in), likewise; the rest of"
        + " h, moved 1 bit down likewise, by n (32 bits that wrap).");
    for (int seed : new int[] {0, 1, 55, 4999, 9998, 9999}) {
      StoneHome x = b.on("row tttttttt;row tttttttt;runs=0-along;drift=0-across;seed " + seed
          + ";kick k 1 by 0 0 1 by 1 0 1 by 2 0 1 by 3 0 1 by 4 0 1 by 0 1;");
      for (int which = 0; which < 150; which++) {
        x.kick(0);
        int outcome = x.now(1) == 1 ? 5 : x.now(0);
        b.due("seed " + seed + ", which " + which, outcome, lotOfSix(seed, which));
      }
    }
  }

  /** In 64 bits, cut to 32 by hand, so that it goes another way than the class does. */
  private static long lotOfSix(long seed, long which) {
    long cut = 0xffffffffL;
    long h = seed;
    for (long word : new long[] {55, which}) {
      h = ((h ^ word) * 1103515245L + 12345L) & cut;
      h = h ^ h / 32768L;
    }
    return h / 2 % 6;
  }
}
