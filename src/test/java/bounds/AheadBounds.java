/** Terms, III, and the promises 14 to 26: what would be. */
final class AheadBounds {
  private static final String TERMS = "Terms";
  /** Home is a kick away, but only from second 45 on: ten steps of five seconds. */
  private static final String TEN = "row th;kick k 6 by 1 0;drift=if second<45 then 1 else 0;";
  /** The same a step later, too late for ten. */
  private static final String ELEVEN = "row th;kick k 6 by 1 0;drift=if second<50 then 1 else 0;";
  private static final String HALVES = "row ttth;kick k 3 by 1 0 3 by 0 0;";

  private final Bounds b;

  AheadBounds(Bounds b) {
    this.b = b;
  }

  void look() {
    fractionsThatCannotBeLessened();
    homeByTheLikeliest();
    homeNoneForNoSuchN();
    bestTheFirstOfAlikeOnes();
    bestOfAWaitIsHowManyKicks();
    bestWhenHomeOrLost();
    bestNoneForNoSuchN();
    sureIfItCanBeMadeSure();
    sureIs1Else0();
    sureNoneForNoSuchN();
    leastIsTheFewest();
    leastIs10AtMost();
    leastNotByThese();
    leastNoneForNoSuchP();
    ruleAlwaysTheSameKick();
    ruleNoneForNoSuchOnes();
    comesBehindJustN();
    comesNoneForNoSuchOnes();
    worthOfALifeOrATouch();
    worthNoneForNoSuchN();
    faceWithWhichHomeIsLikeliest();
    faceWhenHomeOrLost();
    faceNoneForNoSuchN();
    sideByHome();
    sideWhenHomeOrLost();
    sideNoneForNoSuchN();
    goBy0To5Waits();
    goByWhenHomeOrLost();
    goByNoneForNoSuchN();
    planWithWhatIsNow();
    planAsBest();
    planOfHomeGutterWall();
    planNoneForNoSuchOnes();
    trapWithEachFace();
    trapNoneForNoSuchN();
    firstByTurns();
    firstWhenMineIsHomeOrLost();
    firstNoneForNoSuchN();
  }

  private void home(StoneHome x, int n, int above, int below) {
    b.part("home(" + n + ")", x.home(n, false), x.home(n, true), above, below);
  }

  private void fractionsThatCannotBeLessened() {
    b.says(TERMS, "What would be, n KICKS or WAITS at most (0 .. 10), likely things as fractions that cannot be lessened"
        + " (0 by 1; HOME already: 1 by 1; LOST for good: 0 by 1).");
    StoneHome most = b.on("row th;kick k 1 by 1 0 5 by 0 0;");
    home(most, 0, 0, 1);
    home(most, 1, 1, 6);
    home(most, 2, 11, 36);
    home(most, 10, 50700551, 60466176);
    b.part("the least that there is", least10().comes(0, 10, 0, 0, false), least10().comes(0, 10, 0, 0, true), 1, 60466176);
    StoneHome halves = b.on(HALVES);
    home(halves, 2, 0, 1);
    home(halves, 3, 1, 8);
    home(halves, 10, 121, 128);
    StoneHome there = b.on("row tth;stone 2 0 0;kick k 6 by 1 0;cars=1;");
    StoneHome lost = b.on("row tth;kick k 6 by 1 1;");
    lost.kick(0);
    for (int n = 0; n <= 10; n += 5) {
      home(there, n, 1, 1);
      b.part("rule(0, " + n + ") at home", there.rule(0, n, false), there.rule(0, n, true), 1, 1);
      home(lost, n, 0, 1);
      b.part("rule(0, " + n + ") of a lost one", lost.rule(0, n, false), lost.rule(0, n, true), 0, 1);
      b.part("comes(0, " + n + ", ..) of a lost one", lost.comes(0, n, 0, 0, false), lost.comes(0, n, 0, 0, true), 0, 1);
    }
    lostWhereItWasLikely();
    askedInTurn();
  }

  private void lostWhereItWasLikely() {
    StoneHome x = b.on("row tth;kick a 6 by 1 0;kick b 6 by 0 1;");
    home(x, 2, 1, 1);
    b.due("lost for good", x.kick(1), 2);
    for (int n = 0; n <= 10; n += 2) {
      home(x, n, 0, 1);
      b.due("sure(" + n + ")", x.sure(n), 0);
      b.part("rule(0, " + n + ")", x.rule(0, n, false), x.rule(0, n, true), 0, 1);
      b.part("comes(0, " + n + ", 0, 0)", x.comes(0, n, 0, 0, false), x.comes(0, n, 0, 0, true), 0, 1);
      b.due("plan(2, 0, 0), which is of any stone", x.plan(2, 0, 0), 0);
      worth(x, n, true, 0, 1);
      worth(x, n, false, 0, 1);
    }
    b.due("least(1)", x.least(1), -2);
  }

  /** What was asked ahead, of the same n, or in another second, does not count for what is asked now. */
  private void askedInTurn() {
    StoneHome x = b.on("row ttth;kick a 6 by 1 0;kick b 3 by 3 0 3 by 0 0;");
    for (int i = 0; i < 2; i++) {
      home(x, 1, 1, 2);
      b.part("rule(0, 1)", x.rule(0, 1, false), x.rule(0, 1, true), 0, 1);
      b.part("rule(1, 1)", x.rule(1, 1, false), x.rule(1, 1, true), 1, 2);
      b.due("best(1)", x.best(1), 1);
      comes(x, 1, 0, 0, 0, 1);
      comes(x, 1, 1, 0, 1, 1);
      home(x, 3, 1, 1);
      b.part("rule(1, 3)", x.rule(1, 3, false), x.rule(1, 3, true), 7, 8);
      b.part("rule(0, 3)", x.rule(0, 3, false), x.rule(0, 3, true), 1, 1);
      b.due("best(3)", x.best(3), 0);
      b.due("trap(1)", x.trap(1), 0);
    }
    StoneHome timed = b.on("row th;kick a 6 by 1 0;kick b 6 by 1 0;drift=if second<5 then which else 1-which;");
    for (int i = 0; i < 2; i++) {
      b.due("best(1) in second 0", timed.best(1), 0);
      b.part("rule(0, 1) in second 0", timed.rule(0, 1, false), timed.rule(0, 1, true), 1, 1);
      home(timed, 1, 1, 1);
      timed.waits();
      timed.first(1, true);
      timed.undo();
      b.due("best(1) in second 0 again", timed.best(1), 0);
      timed.waits();
      b.due("best(1) in second 5", timed.best(1), 1);
      b.part("rule(0, 1) in second 5", timed.rule(0, 1, false), timed.rule(0, 1, true), 0, 1);
      timed.undo();
      b.part("rule(0, 1) in second 0", timed.rule(0, 1, false), timed.rule(0, 1, true), 1, 1);
    }
    StoneHome undone = b.on("row th;kick k 6 by 1 0;drift=if second<5 then 1 else 0;");
    home(undone, 1, 0, 1);
    undone.waits();
    home(undone, 1, 1, 1);
    undone.undo();
    home(undone, 1, 0, 1);
  }

  private StoneHome least10() {
    return b.on("row th;kick k 1 by 0 0 5 by 1 0;");
  }

  private void homeByTheLikeliest() {
    b.says(TERMS, "HOME: how likely it comes home in n at most, if each time that is done (KICKS that can be, by numbers,"
        + " then a WAIT) by which that is likeliest;");
    home(b.on(TEN), 9, 0, 1);
    home(b.on(TEN), 10, 1, 1);
    home(b.on(ELEVEN), 10, 0, 1);
    home(b.on("row pth;kick a 3 by 2 0 3 by 2 0;kick b 3 by 1 0 3 by 1 0;"), 10, 0, 1);
    home(b.on("row pth;kick a 3 by 2 0 3 by 2 0;kick b 6 by 1 0;"), 2, 1, 1);
    home(b.on("row ttth;kick a 6 by 1 0;kick b 3 by 3 0 3 by 0 1;"), 2, 1, 2);
    home(b.on("row ttth;kick a 6 by 1 0;kick b 3 by 3 0 3 by 0 1;"), 3, 1, 1);
    home(b.on("row th;lives 2;kick k 1 by 1 0 5 by 0 1;"), 2, 11, 36);
    home(b.on("row th;lives 2;kick k 1 by 1 0 5 by 0 1;"), 3, 91, 216);
    home(b.on("row th;lives 2;kick k 1 by 1 0 5 by 0 1;"), 4, 91, 216);
    afterManySteps();
  }

  private void homeNoneForNoSuchN() {
    b.says("Promise 14", "HOME; NONE: no such n.");
    for (boolean below : new boolean[] {false, true}) {
      b.ends("home", 0, 10, n -> b.on(HALVES).home(n, below));
      b.refusedAlways("home(-1)", x -> x.home(-1, below), -1);
      b.refusedAlways("home(11)", x -> x.home(11, below), -1);
    }
  }

  /** Steps go round in what is kept of them; the second still counts. */
  private void afterManySteps() {
    StoneHome x = b.on("row th;kick k 6 by 1 0;takes 1;drift=if second<40 then 1 else 0;");
    for (int step = 0; step < 40; step++) {
      int steps = 41 - step;
      home(x, 10, steps <= 10 ? 1 : 0, 1);
      b.due("best(10) in second " + step, x.best(10), steps <= 10 ? 1 : 0);
      x.waits();
    }
    home(x, 1, 1, 1);
    b.due("best(1)", x.best(1), 0);
    for (int step = 39; step >= 0; step--) {
      if (!x.undo()) {
        break;
      }
      home(x, 10, 41 - step <= 10 ? 1 : 0, 1);
    }
  }

  private void bestTheFirstOfAlikeOnes() {
    b.says(TERMS, "BEST: which it is now (of alike ones the first).");
    b.due("all alike", b.on("row ttth;kick a 6 by 0 1;kick b 6 by 1 0;kick c 6 by 0 0;").best(1), 0);
    b.due("two alike", b.on("row tth;kick a 6 by 1 0;kick b 6 by 2 0;kick c 6 by 3 0;").best(1), 1);
    b.due("a kick and a wait alike", b.on("row tth;kick a 6 by 1 1;kick b 6 by 1 0;kick c 6 by 0 0;").best(3), 1);
    b.due("alike are a kick that cannot be, and one that can", b.on("row pth;kick a 3 by 2 0 3 by 2 0;kick b 6 by 2 0;").best(1), 1);
  }

  private void bestOfAWaitIsHowManyKicks() {
    b.says("Promise 15", "BEST: the KICK, how many KICKS there are for a WAIT;");
    StringBuilder kicks = new StringBuilder();
    for (int n = 1; n <= 4; n++) {
      kicks.append("kick ").append((char) ('a' + n)).append(" 6 by 1 0;");
      StoneHome x = b.on("row th;drift=if second<5 then 1 else 0;" + kicks);
      b.due("a wait with " + n + " kicks", x.best(2), n);
    }
    b.due("only a wait can be", b.on("row pth;kick a 3 by 2 0 3 by 2 0;").best(1), 1);
    b.due("best(9)", b.on(TEN).best(9), 0);
    b.due("best(10)", b.on(TEN).best(10), 1);
  }

  private void bestWhenHomeOrLost() {
    b.says("Promise 15", "-2: HOME, LOST;");
    b.refusedWhenOver("best(1)", x -> x.best(1), -2);
    b.refusedWhenOver("best(10)", x -> x.best(10), -2);
  }

  private void bestNoneForNoSuchN() {
    b.says("Promise 15", "NONE: no such n (1 .. 10).");
    b.ends("best", 1, 10, n -> b.on(HALVES).best(n));
    b.refusedAlways("best(0)", x -> x.best(0), -1);
    b.refusedAlways("best(11)", x -> x.best(11), -1);
  }

  private void sureIfItCanBeMadeSure() {
    b.says(TERMS, "SURE: whether it can be made sure.");
    b.due("5 of 6", b.on("row th;kick k 5 by 1 0 1 by 0 0;").sure(1), 0);
    b.due("nearly", b.on("row th;kick k 5 by 1 0 1 by 0 0;").sure(10), 0);
    b.due("6 of 6", b.on("row th;kick k 5 by 1 0 1 by 2 0;").sure(1), 1);
    b.due("with lives", b.on("row th;kick k 5 by 1 0 1 by 0 1;lives 2;").sure(10), 0);
    b.due("of two kicks one is sure", b.on("row th;kick k 5 by 1 0 1 by 0 1;kick l 6 by 1 0;").sure(1), 1);
    b.due("sure(9)", b.on(TEN).sure(9), 0);
    b.due("sure(10)", b.on(TEN).sure(10), 1);
  }

  private void sureIs1Else0() {
    b.says("Promise 16", "SURE: 1, else 0;");
    StoneHome there = b.on("row tth;stone 2 0 0;kick k 6 by 1 0;");
    b.due("home already", there.sure(0), 1);
    b.due("home already", there.sure(10), 1);
    b.due("not in 0", b.on(HALVES).sure(0), 0);
    StoneHome lost = b.on("row tth;kick k 6 by 1 1;");
    lost.kick(0);
    b.due("lost", lost.sure(0), 0);
    b.due("lost", lost.sure(10), 0);
  }

  private void sureNoneForNoSuchN() {
    b.says("Promise 16", "NONE: no such n.");
    b.ends("sure", 0, 10, n -> b.on(HALVES).sure(n));
    b.refusedAlways("sure(-1)", x -> x.sure(-1), -1);
    b.refusedAlways("sure(11)", x -> x.sure(11), -1);
  }

  private void leastIsTheFewest() {
    b.says(TERMS, "LEAST: the fewest so that HOME is p hundredths or more.");
    int[] sixteenths = {0, 0, 0, 2, 5, 8};
    StoneHome halves = b.on(HALVES);
    for (int p = 1; p <= 50; p++) {
      int n = 0;
      while (sixteenths[n] * 100 < p * 16) {
        n++;
      }
      b.due("least(" + p + ")", halves.least(p), n);
    }
    b.due("least(51)", halves.least(51), 6);
    StoneHome third = b.on("row th;kick k 2 by 1 0 4 by 0 1;");
    b.due("33 of a third", third.least(33), 1);
    b.due("34 of a third", third.least(34), -2);
  }

  private void leastIs10AtMost() {
    b.says("Promise 17", "LEAST (p 0 .. 100), 10 at most;");
    b.due("nothing wanted", b.on(HALVES).least(0), 0);
    b.due("all wanted, in ten", b.on(TEN).least(100), 10);
    b.due("1 wanted, in ten", b.on(TEN).least(1), 10);
    b.due("home already", b.on("row tth;stone 2 0 0;kick k 6 by 1 0;").least(100), 0);
  }

  private void leastNotByThese() {
    b.says("Promise 17", "-2: not by these;");
    b.due("in eleven", b.on(ELEVEN).least(1), -2);
    b.due("in eleven, nothing wanted", b.on(ELEVEN).least(0), 0);
    b.due("94 of 121 by 128", b.on(HALVES).least(94), 10);
    b.due("95 of 121 by 128", b.on(HALVES).least(95), -2);
    b.due("never all", b.on(HALVES).least(100), -2);
    StoneHome lost = b.on("row tth;kick k 6 by 1 1;");
    lost.kick(0);
    b.due("lost", lost.least(1), -2);
    b.due("lost, nothing wanted", lost.least(0), 0);
  }

  private void leastNoneForNoSuchP() {
    b.says("Promise 17", "NONE: no such p.");
    b.ends("least", 0, 100, p -> b.on(HALVES).least(p));
    b.refusedAlways("least(-1)", x -> x.least(-1), -1);
    b.refusedAlways("least(101)", x -> x.least(101), -1);
  }

  private void ruleAlwaysTheSameKick() {
    b.says(TERMS, "RULE: how likely if always the same KICK is done (a WAIT where it cannot be).");
    StoneHome x = b.on("row tpth;kick a 6 by 1 0;kick b 3 by 1 0 3 by 3 0;");
    b.part("rule(0, 2)", x.rule(0, 2, false), x.rule(0, 2, true), 0, 1);
    b.part("rule(0, 3)", x.rule(0, 3, false), x.rule(0, 3, true), 1, 1);
    b.part("it waits by the car", x.rule(1, 10, false), x.rule(1, 10, true), 1, 2);
    b.part("nothing in 0", x.rule(0, 0, false), x.rule(0, 0, true), 0, 1);
    StoneHome barred = b.on("row pth;kick a 3 by 1 0 3 by 1 0;lives 2;cars=second-10;");
    b.part("it waits until it is lost", barred.comes(0, 4, 0, 0, false), barred.comes(0, 4, 0, 0, true), 1, 1);
    b.part("it waits until it is lost", barred.comes(0, 5, 0, 0, false), barred.comes(0, 5, 0, 0, true), 0, 1);
    b.part("in ten", b.on(TEN).rule(0, 10, false), b.on(TEN).rule(0, 10, true), 0, 1);
  }

  private void ruleNoneForNoSuchOnes() {
    b.says("Promise 18", "RULE; NONE: no such ones.");
    for (boolean below : new boolean[] {false, true}) {
      b.ends("rule's kick", 0, 3, kick -> b.on(FOUR_KICKS).rule(kick, 1, below));
      b.ends("rule's n", 0, 10, n -> b.on(FOUR_KICKS).rule(3, n, below));
      b.refusedAlways("rule(-1, 1)", y -> y.rule(-1, 1, below), -1);
      b.refusedAlways("rule(3, 1)", y -> y.rule(3, 1, below), -1);
      b.refusedAlways("rule(0, -1)", y -> y.rule(0, -1, below), -1);
      b.refusedAlways("rule(0, 11)", y -> y.rule(0, 11, below), -1);
    }
  }

  private static final String FOUR_KICKS =
      "row tttt;row ttth;kick a 6 by 1 0;kick b 6 by 1 0;kick c 6 by 1 0;kick d 3 by 1 0 3 by 0 1;";

  private void comes(StoneHome x, int n, int along, int across, int above, int below) {
    b.part("comes(0, " + n + ", " + along + ", " + across + ")", x.comes(0, n, along, across, false),
        x.comes(0, n, along, across, true), above, below);
  }

  private void comesBehindJustN() {
    b.says(TERMS, "COMES: how likely it lies on a SQUARE (not LOST) behind just n by the RULE.");
    StoneHome x = b.on("row tth;row ggg;kick a 3 by 1 0 2 by 0 0 1 by 0 1;lives 1;");
    comes(x, 0, 0, 0, 1, 1);
    comes(x, 0, 1, 0, 0, 1);
    comes(x, 1, 0, 0, 1, 2);
    comes(x, 1, 1, 0, 1, 2);
    comes(x, 2, 0, 0, 2, 9);
    comes(x, 2, 2, 0, 1, 4);
    comes(x, 1, 0, 1, 0, 1);
    comes(least10(), 10, 0, 0, 1, 60466176);
    StoneHome lost = b.on("row tt;kick a 3 by 0 0 3 by 0 1;");
    comes(lost, 1, 0, 0, 1, 2);
    comes(lost, 10, 0, 0, 1, 1024);
  }

  private void comesNoneForNoSuchOnes() {
    b.says("Promise 19", "COMES; NONE: no such ones.");
    for (boolean below : new boolean[] {false, true}) {
      b.ends("comes' kick", 0, 3, kick -> b.on(FOUR_KICKS).comes(kick, 1, 0, 0, below));
      b.ends("comes' n", 0, 10, n -> b.on(FOUR_KICKS).comes(0, n, 0, 0, below));
      b.ends("comes' along", 0, 3, along -> b.on(FOUR_KICKS).comes(0, 0, along, 1, below));
      b.ends("comes' across", 0, 1, across -> b.on(FOUR_KICKS).comes(0, 0, 3, across, below));
      b.refusedAlways("comes' kick", y -> y.comes(3, 0, 0, 0, below), -1);
      b.refusedAlways("comes' n", y -> y.comes(0, 11, 0, 0, below), -1);
      b.refusedAlways("comes' along", y -> y.comes(0, 0, 6, 0, below), -1);
      b.refusedAlways("comes' across", y -> y.comes(0, 0, 0, 2, below), -1);
    }
  }

  private void worth(StoneHome x, int n, boolean life, int above, int below) {
    b.part("worth(" + n + ", " + life + ")", x.worth(n, life, false), x.worth(n, life, true), above, below);
  }

  private void worthOfALifeOrATouch() {
    b.says(TERMS, "WORTH: HOME with a LIFE more, or with it laid by a TOUCH on that SQUARE by which HOME is likeliest (or by none),"
        + " less HOME as it is (0, if it is HOME or LOST).");
    for (int lives = 0; lives <= 2; lives++) {
      StoneHome x = b.on("row th;kick k 3 by 1 0 3 by 0 1;lives " + lives + ";");
      worth(x, lives + 1, true, 0, 1);
      worth(x, lives + 2, true, 1, 4 << lives);
      worth(x, 10, true, 1, 4 << lives);
    }
    worth(b.on("row th;kick k 6 by 1 0;"), 10, true, 0, 1);
    worth(b.on("row th;kick k 3 by 1 0 3 by 0 1;"), 0, false, 1, 1);
    worth(b.on("row ht;stone 1 0 0;kick k 6 by 0 0;"), 0, false, 1, 1);
    worth(b.on("row t;row h;kick k 6 by 0 0;"), 0, false, 1, 1);
    worth(b.on("row h;row t;stone 0 1 0;kick k 6 by 0 0;"), 0, false, 1, 1);
    worth(b.on("row tth;kick k 6 by 0 0;"), 10, false, 0, 1);
    worth(b.on("row ttth;row tggg;kick k 2 by 1 0 4 by 0 0;"), 3, false, 2, 9);
    worth(b.on("row tgh;row ttt;kick k 3 by 2 0 3 by 0 0;drift=0-across;"), 1, false, 0, 1);
    worth(b.on("row t;kick k 6 by 1 0;"), 10, false, 0, 1);
    worth(b.on("row gwg;row wth;row gwg;stone 1 1 0;friend 1 1 0;kick k 6 by 0 0;"), 0, false, 1, 1);
    worth(b.on("row gwg;row wtw;row gwg;stone 1 1 0;friend 1 1 0;kick k 6 by 0 0;"), 10, false, 0, 1);
    noneByATouchWhenItIsWorse();
  }

  private void worthNoneForNoSuchN() {
    b.says("Promise 20", "WORTH of a TOUCH (or of a LIFE); NONE: no such n.");
    worthWhenOver();
    for (boolean life : new boolean[] {false, true}) {
      for (boolean below : new boolean[] {false, true}) {
        b.ends("worth", 0, 10, n -> b.on(HALVES).worth(n, life, below));
        b.refusedAlways("worth(-1)", x -> x.worth(-1, life, below), -1);
        b.refusedAlways("worth(11)", x -> x.worth(11, life, below), -1);
      }
    }
  }

  private void noneByATouchWhenItIsWorse() {
    StoneHome x = b.on("row tttth;kick k 6 by 4 0;runs=if along<1 then 0 else 0-4;");
    home(x, 1, 1, 1);
    worth(x, 1, false, 0, 1);
    StoneHome second = b.on("row tttth;kick k 3 by 4 0 3 by 0 0;runs=if along<1 then 0 else 0-4;");
    worth(second, 1, false, 0, 1);
  }

  private void worthWhenOver() {
    for (boolean life : new boolean[] {false, true}) {
      for (int n = 0; n <= 10; n += 10) {
        StoneHome there = new StoneHome();
        StoneHome lost = new StoneHome();
        Scenes.atHome(there);
        Scenes.lost(lost);
        worth(there, n, life, 0, 1);
        worth(lost, n, life, 0, 1);
      }
    }
  }

  private void faceWithWhichHomeIsLikeliest() {
    b.says(TERMS, "FACE: that with which, as it lies, HOME is likeliest; of alike ones the first.");
    for (int good = 0; good < 3; good++) {
      String drift = "drift=if face<" + good + " then 1 else if " + good + "<face then 1 else 0;";
      StoneHome x = b.on("row th;faces 3;kick k 6 by 1 0;" + drift);
      b.due("the only good one", x.face(1), good);
      b.due("in 0 all are alike", x.face(0), 0);
      b.due("its own stays", x.now(2), 0);
    }
    StoneHome two = b.on("row th;faces 3;kick k 6 by 1 0;drift=if face<1 then 1 else 0;stone 0 0 2;");
    b.due("of alike ones the first", two.face(1), 1);
    b.due("one face", b.on(HALVES).face(10), 0);
    StoneHome fewer = b.on("row th;faces 2;kick k 6 by 1 0;drift=if face<2 then 1 else 0;");
    b.due("no face beyond FACES", fewer.face(1), 0);
  }

  private void faceWhenHomeOrLost() {
    b.says("Promise 21", "FACE; -2: HOME, LOST;");
    b.refusedWhenOver("face(0)", x -> x.face(0), -2);
    b.refusedWhenOver("face(10)", x -> x.face(10), -2);
  }

  private void faceNoneForNoSuchN() {
    b.says("Promise 21", "NONE: no such n.");
    b.ends("face", 0, 10, n -> b.on(HALVES).face(n));
    b.refusedAlways("face(-1)", x -> x.face(-1), -1);
    b.refusedAlways("face(11)", x -> x.face(11), -1);
  }

  private void sideByHome() {
    b.says(TERMS, "SIDE: the ROW in which, as far ALONG as now, it would best lie (a SQUARE that is no gutter, no wall): by HOME;"
        + " of alike ones the first.");
    for (int good = 0; good < 4; good++) {
      StringBuilder rows = new StringBuilder();
      for (int row = 0; row < 4; row++) {
        rows.append(row == good ? "row tth;" : "row ttt;");
      }
      StoneHome x = b.on(rows + "kick k 6 by 1 0;stone 1 2 0;");
      b.due("the only good one", x.side(1), good);
      b.due("in 0 all are alike", x.side(0), 0);
    }
    b.due("no gutter, no wall", b.on("row gth;row wth;row tth;row tth;stone 0 3 0;friend 0 3 0;kick k 6 by 2 0;").side(1), 2);
    b.due("no gutter, no wall, in 0", b.on("row gth;row wth;row tth;row tth;stone 0 3 0;friend 0 3 0;kick k 6 by 2 0;").side(0), 2);
    b.due("home itself", b.on("row t;row t;row t;row h;kick k 6 by 0 0;").side(0), 3);
    b.due("with the face that it has", b.on("row th;row tt;faces 2;stone 0 0 1;kick k 6 by 1 0;drift=0-face;").side(1), 1);
    b.due("one row", b.on(HALVES).side(10), 0);
  }

  private void sideWhenHomeOrLost() {
    b.says("Promise 22", "SIDE; -2: HOME, LOST;");
    b.refusedWhenOver("side(0)", x -> x.side(0), -2);
    b.refusedWhenOver("side(10)", x -> x.side(10), -2);
  }

  private void sideNoneForNoSuchN() {
    b.says("Promise 22", "NONE: no such n.");
    b.ends("side", 0, 10, n -> b.on(HALVES).side(n));
    b.refusedAlways("side(-1)", x -> x.side(-1), -1);
    b.refusedAlways("side(11)", x -> x.side(11), -1);
  }

  private void goBy0To5Waits() {
    b.says(TERMS, "GO BY: how many WAITS first (0 .. 5), so that HOME in n more KICKS or WAITS behind them is likeliest"
        + " (if it is LOST meanwhile, so it is); of alike ones the fewest.");
    for (int waits = 0; waits <= 6; waits++) {
      StoneHome x = b.on("row th;kick k 6 by 1 0;drift=if second<" + 5 * waits + " then 1 else 0;");
      b.due("free behind " + waits, x.goBy(1), waits <= 5 ? waits : 0);
      b.due("in 0 all are alike", x.goBy(0), 0);
      b.due("with a wait of the n", x.goBy(2), waits == 0 ? 0 : waits - 1);
    }
    b.due("in ten it waits by itself", b.on(TEN).goBy(10), 0);
    b.due("in ten behind one", b.on(ELEVEN).goBy(10), 1);
    String cars = "cars=if second<6 then 1 else 0;drift=if second<10 then 1 else 0;";
    b.due("lost meanwhile", b.on("row th;kick k 6 by 1 0;" + cars).goBy(1), 0);
    b.due("a life less meanwhile", b.on("row th;kick k 6 by 1 0;lives 1;" + cars).goBy(1), 2);
    String twice = "cars=if second<11 then 1 else 0;drift=if second<15 then 1 else 0;";
    b.due("lost by the second one", b.on("row th;kick k 6 by 1 0;lives 1;" + twice).goBy(1), 0);
    b.due("two lives less meanwhile", b.on("row th;kick k 6 by 1 0;lives 2;" + twice).goBy(1), 3);
    String last = "drift=if second<10 then 1 else 0;cars=if second<10 then 0 else if 10<second then 0 else 1;";
    b.due("lost by the last of them", b.on("row th;kick k 6 by 1 0;" + last).goBy(1), 0);
  }

  private void goByWhenHomeOrLost() {
    b.says("Promise 23", "GO BY; -2: HOME, LOST;");
    b.refusedWhenOver("goBy(0)", x -> x.goBy(0), -2);
    b.refusedWhenOver("goBy(10)", x -> x.goBy(10), -2);
  }

  private void goByNoneForNoSuchN() {
    b.says("Promise 23", "NONE: no such n.");
    b.ends("goBy", 0, 10, n -> b.on(HALVES).goBy(n));
    b.refusedAlways("goBy(-1)", x -> x.goBy(-1), -1);
    b.refusedAlways("goBy(11)", x -> x.goBy(11), -1);
  }

  private void planWithWhatIsNow() {
    b.says(TERMS, "PLAN: for each SQUARE, by ALONG, ACROSS, with the FACE and the LIVES that are now, in the second that is now:"
        + " BEST there.");
    StoneHome face = b.on("row tt;row th;faces 2;kick a 6 by 1 0;kick b 6 by 1 0 turn 1;kick c 6 by 1 -1;drift=face;stone 0 0 1;");
    b.due("with the face that is now", face.plan(1, 0, 0), 0);
    b.due("with the face that is now", face.plan(1, 0, 1), 2);
    StoneHome lives = b.on("row tth;kick a 6 by 0 0;kick b 3 by 2 0 3 by 0 1;kick c 3 by 1 0 3 by 0 1;lives 1;");
    b.due("with a life", lives.plan(2, 0, 0), 1);
    StoneHome second = b.on("row th;kick a 6 by 0 0;kick b 6 by 1 0;drift=if second<5 then 1 else 0;");
    b.due("in the second that is now", second.plan(1, 0, 0), 0);
    second.waits();
    b.due("in the second that is now", second.plan(1, 0, 0), 1);
  }

  private void planAsBest() {
    b.says("Promise 24", "PLAN for a SQUARE: as best();");
    b.due("a wait", b.on(TEN).plan(10, 0, 0), 1);
    b.due("none helps", b.on(TEN).plan(9, 0, 0), 0);
    b.due("by a car that stands", b.on("row tph;kick a 3 by 1 0 3 by 1 0;kick b 6 by 1 0;").plan(1, 1, 0), 1);
    StoneHome there = b.on("row tth;kick a 6 by 0 0;kick b 6 by 1 0;stone 2 0 0;");
    b.due("it is home itself", there.plan(1, 1, 0), 1);
    StoneHome lost = b.on("row tth;kick a 6 by 1 1;kick b 6 by 1 0;");
    lost.kick(0);
    b.due("it is lost itself", lost.plan(1, 1, 0), 1);
  }

  private void planOfHomeGutterWall() {
    b.says("Promise 24", "-2: home, a gutter, a wall;");
    String sorts = "row tcspgwh;kick a 6 by 0 0;";
    for (int n = 1; n <= 10; n += 9) {
      for (int along = 0; along <= 6; along++) {
        b.due("plan(" + n + ", " + along + ", 0)", b.on(sorts).plan(n, along, 0), along <= 3 ? 0 : -2);
      }
    }
  }

  private void planNoneForNoSuchOnes() {
    b.says("Promise 24", "NONE: no such ones (n 1 .. 10).");
    b.ends("plan's n", 1, 10, n -> b.on(FOUR_KICKS).plan(n, 0, 0));
    b.ends("plan's n at home", 1, 10, n -> b.on(FOUR_KICKS).plan(n, 3, 1));
    b.ends("plan's along", 0, 3, along -> b.on(FOUR_KICKS).plan(1, along, 0));
    b.ends("plan's across", 0, 1, across -> b.on(FOUR_KICKS).plan(1, 3, across));
    b.refusedAlways("plan(0, 0, 0)", x -> x.plan(0, 0, 0), -1);
    b.refusedAlways("plan(11, 0, 0)", x -> x.plan(11, 0, 0), -1);
    b.refusedAlways("plan(1, -1, 0)", x -> x.plan(1, -1, 0), -1);
    b.refusedAlways("plan(1, 0, -1)", x -> x.plan(1, 0, -1), -1);
    b.refusedAlways("plan(1, 0, 2)", x -> x.plan(1, 0, 2), -1);
    b.refusedAlways("plan(1, 6, 0)", x -> x.plan(1, 6, 0), -1);
  }

  private void trapWithEachFace() {
    b.says(TERMS, "TRAP: how many SQUARES there are (no gutters, no walls) from which HOME is 0 by 1 with each FACE, so.");
    StoneHome x = b.on("row tttttttt;row tttttttt;row tttttttt;row ttttgwth;kick k 6 by 1 0;");
    b.due("in 0 all but home", x.trap(0), 29);
    b.due("in 1", x.trap(1), 28);
    b.due("in 10", x.trap(10), 28);
    b.due("none is home", b.on("row tttttttt;row tttttttt;row tttttttt;row tttttttt;kick k 6 by 1 0;").trap(10), 32);
    b.due("all are home", b.on("row hhhhhhhh;row hhhhhhhh;row hhhhhhhh;row hhhhhhhh;kick k 6 by 1 0;").trap(0), 0);
    for (int good = 0; good < 3; good++) {
      String drift = "drift=if face<" + good + " then 1 else if " + good + "<face then 1 else 0;";
      b.due("one face is enough", b.on("row th;faces 3;kick k 6 by 1 0;" + drift).trap(1), 0);
    }
    trapWithTheLivesThatAreNow();
    b.due("the next square is no face of it", b.on("row tth;faces 3;kick k 6 by 1 0;").trap(1), 1);
    b.due("the next square is no face of it", b.on("row tttttttt;row htttttth;faces 3;kick k 6 by 1 0;").trap(1), 13);
    StoneHome late = b.on("row th;kick k 6 by 1 0;drift=if second<5 then 0 else 1;");
    b.due("in the second that is now", late.trap(1), 0);
    late.waits();
    b.due("in the second that is now", late.trap(1), 1);
  }

  private void trapNoneForNoSuchN() {
    b.says("Promise 25", "TRAP; NONE: no such n.");
    StoneHome there = b.on("row tth;kick k 6 by 1 0;stone 2 0 0;");
    b.due("it is home itself", there.trap(1), 1);
    b.ends("trap", 0, 10, n -> b.on(HALVES).trap(n));
    b.refusedAlways("trap(-1)", y -> y.trap(-1), -1);
    b.refusedAlways("trap(11)", y -> y.trap(11), -1);
  }

  /** The traffic of second 10 takes a life, and the kick is free from second 15 on. */
  private void trapWithTheLivesThatAreNow() {
    String text = "row th;kick k 6 by 1 0;lives 1;drift=if second<15 then 1 else 0;"
        + "cars=if second<10 then 0 else if 10<second then 0 else 1;";
    StoneHome kept = b.on(text);
    kept.waits();
    b.due("with a life that is kept", kept.trap(3), 0);
    StoneHome spent = b.on(text);
    b.due("a life less", spent.kick(0), 3);
    b.due("with a life that is spent", spent.trap(3), 1);
  }

  private void first(String text, int n, int above, int below) {
    StoneHome x = b.on(text);
    b.part("first(" + n + ") on " + text, x.first(n, false), x.first(n, true), above, below);
  }

  /** A leap of two more in just one of the seconds 0, 5, 10, 15, mine or his; he comes nowhere by it. */
  private void firstAsTheSecondsGo() {
    String leap = "kick k 6 by 1 0;runs=if second<# then 0 else if #<second then 0 else 2;";
    first("row ttttth;" + leap.replace("#", "0"), 3, 1, 1);
    first("row tttttth;" + leap.replace("#", "0"), 3, 0, 1);
    first("row ttttth;" + leap.replace("#", "10"), 3, 1, 1);
    first("row ttttth;" + leap.replace("#", "20"), 3, 1, 1);
    first("row ttttth;" + leap.replace("#", "15"), 3, 0, 1);
    first("row ttttttth;stone 5 0 0;" + leap.replace("#", "5"), 2, 1, 1);
    first("row ttttttth;stone 4 0 0;" + leap.replace("#", "15"), 3, 1, 1);
    first("row ttttttth;stone 4 0 0;friend 3 0 0;" + leap.replace("#", "5"), 3, 0, 1);
    first("row ttttttth;stone 4 0 0;friend 3 0 0;" + leap.replace("#", "10"), 3, 1, 1);
    first("row tth;stone 1 0 0;friend 1 0 0;kick k 6 by 1 0;runs=if along<1 then 4 else 0-4;", 2, 1, 1);
    first("row tttth;kick k 6 by 1 0;cars=1;", 3, 0, 1);
    first("row tttth;row tttth;stone 2 0 0;friend 3 1 0;kick k 6 by 1 0;cars=across;drift=across;", 1, 0, 1);
    first("row tttth;row tttth;stone 2 0 0;friend 3 1 0;kick k 6 by 1 0;cars=across;drift=across;", 2, 1, 1);
    first("row tttth;row tttth;stone 2 0 0;friend 3 1 0;kick k 3 by 1 0 3 by 0 0;cars=across;drift=across;", 3, 1, 2);
    // A choice where the document is silent: the turn of his lost stone goes by, and takes its seconds.
    String lost = "row ttttth;row tttttt;friend 0 1 0;cars=across;";
    first(lost + leap.replace("#", "20"), 3, 1, 1);
    first(lost + leap.replace("#", "15"), 3, 0, 1);
    StoneHome later = b.on("row ttttth;" + leap.replace("#", "15"));
    b.part("first(3) in second 0", later.first(3, false), later.first(3, true), 0, 1);
    later.waits();
    b.part("first(3) in second 5", later.first(3, false), later.first(3, true), 1, 1);
  }

  private void firstFromWhereItCannotBe() {
    String kicks = "tth;kick a 3 by 2 0 3 by 2 0;kick b 6 by 1 0;";
    StoneHome x = b.on("row t" + kicks.substring(1));
    b.part("first(1) from tar", x.first(1, false), x.first(1, true), 1, 1);
    Checks.read(x, "row p" + kicks.substring(1));
    b.part("first(1) by a car that stands", x.first(1, false), x.first(1, true), 0, 1);
    b.part("first(2) by a car that stands, his too", x.first(2, false), x.first(2, true), 1, 1);
    StoneHome his = b.on("row ttth;row tttt;friend 2 1 0;kick k 6 by 1 0;");
    b.part("his comes nowhere", his.first(3, false), his.first(3, true), 1, 1);
    Checks.read(his, "row ttth;row tthh;friend 2 1 0;kick k 6 by 1 0;");
    b.part("his is home from the beginning", his.first(3, false), his.first(3, true), 0, 1);
  }

  private void firstByTurns() {
    b.says(TERMS, "FIRST with the friend by turns, n KICKS or WAITS each at most (1 .. 3), mine first, LIVES for none,"
        + " TAKES seconds for each turn: how likely mine is home ahead of his, if I do that by which this is likeliest,"
        + " and he that by which it is least.");
    String sure = "row tttth;kick k 6 by 1 0;";
    first(sure + "stone 3 0 0;friend 3 0 0;", 1, 1, 1);
    first(sure + "stone 2 0 0;friend 3 0 0;", 3, 0, 1);
    first(sure + "stone 2 0 0;friend 2 0 0;", 1, 0, 1);
    first(sure + "stone 2 0 0;friend 2 0 0;", 2, 1, 1);
    first(sure + "stone 1 0 0;friend 1 0 0;", 2, 0, 1);
    first(sure + "stone 1 0 0;friend 1 0 0;", 3, 1, 1);
    first(sure + "stone 0 0 0;friend 0 0 0;", 3, 0, 1);
    String even = "row th;kick k 3 by 1 0 3 by 0 0;";
    first(even, 1, 1, 2);
    first(even, 2, 5, 8);
    first(even, 3, 21, 32);
    first("row th;kick k 1 by 1 0 5 by 0 0;", 3, 6 * 6 * 6 * 6 + 25 * 36 + 625, 7776);
    String fragile = "row th;kick k 3 by 1 0 3 by 0 1;lives 2;";
    first(fragile, 1, 1, 2);
    first(fragile, 3, 1, 2);
    for (int seconds = 0; seconds <= 15; seconds++) {
      String later = "row th;row tt;kick k 6 by 1 0;takes 3;friend 0 1 0;drift=if second<" + seconds + " then 1 else 0;";
      first(later, 1, seconds == 0 ? 1 : 0, 1);
      first(later, 2, seconds <= 6 ? 1 : 0, 1);
      first(later, 3, seconds <= 12 ? 1 : 0, 1);
    }
    first("row ttth;kick a 6 by 1 0;friend 3 0 0;", 3, 0, 1);
    first("row tth;kick a 6 by 1 0;kick b 6 by 2 0;friend 0 0 0;", 1, 1, 1);
    first("row tth;row tgh;kick a 3 by 1 0 3 by 0 0;kick b 6 by 2 0;friend 0 1 0;drift=0;runs=if across<1 then 0-1 else 0;", 3, 0, 1);
    firstAsTheSecondsGo();
    firstFromWhereItCannotBe();
  }

  private void firstWhenMineIsHomeOrLost() {
    b.says("Promise 26", "FIRST; -2: mine is HOME, LOST;");
    for (boolean below : new boolean[] {false, true}) {
      for (int n = 1; n <= 3; n++) {
        int turns = n;
        b.refusedWhenOver("first(" + n + ")", x -> x.first(turns, below), -2);
      }
    }
  }

  private void firstNoneForNoSuchN() {
    b.says("Promise 26", "NONE: no such n.");
    for (boolean below : new boolean[] {false, true}) {
      b.ends("first", 1, 3, n -> b.on(HALVES).first(n, below));
      b.refusedAlways("first(0)", x -> x.first(0, below), -1);
      b.refusedAlways("first(4)", x -> x.first(4, below), -1);
    }
  }
}
