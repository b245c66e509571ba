/** Terms, I: what is a token, and how tokens make a text. */
final class TokenBounds {
  private static final String TERMS = "Terms";
  private static final String KICK = "kick k 6 by 1 0;";
  private static final String BASE = "row th;" + KICK;
  private static final int TEXT_ROOM = 2000;

  private static final String[] WORDS = {"row", "faces", "kick", "drift", "runs", "cars", "stone", "friend", "lives",
      "takes", "seed", "by", "turn", "if", "then", "else", "along", "across", "face", "sort", "which", "hard", "second"};
  private static final String SIGNS = ";=+-*/<()";
  private static final String BLANKS = "\t\n\r ";

  private final Bounds b;

  TokenBounds(Bounds b) {
    this.b = b;
  }

  void look() {
    textHas2000BytesAtMost();
    tokensTheLongestThatCanBe();
    namesOf8LettersAtMost();
    namesAreNoneOfTheWords();
    intsOf1To4Digits();
    signs();
    allElseIsNoToken();
    textMayHaveNoTell();
    eachTellIsWhole();
    outcomeMayHaveMinusAndTurn();
    lawMayHaveNoIf();
    formulaOfParts();
    partOfUnits();
    unitOrParentheses();
    variables();
    syntaxIsWhatNoTextGoesOnWith();
  }

  private void textHas2000BytesAtMost() {
    b.says(TERMS, "A TEXT has 2,000 bytes at most.");
    b.taken(BASE + " ".repeat(TEXT_ROOM - BASE.length()));
    b.taken(" ".repeat(TEXT_ROOM - BASE.length()) + BASE);
    b.fault(BASE + " ".repeat(TEXT_ROOM - BASE.length() - 1) + "#", 1, TEXT_ROOM - 1);
    b.fault(" ".repeat(TEXT_ROOM - BASE.length()) + BASE.substring(0, BASE.length() - 1) + "#", 1, TEXT_ROOM - 1);
    b.fault(" ".repeat(TEXT_ROOM - 4) + "row ", 1, TEXT_ROOM);
    b.fault(" ".repeat(TEXT_ROOM), 7, TEXT_ROOM);
    for (String last : new String[] {"row", "row t", "row tttttttt", "seed 1", "seed 9999", "drift=", "drift=along", "kick k 6 by 1 0"}) {
      b.fault(" ".repeat(TEXT_ROOM - last.length()) + last, 1, TEXT_ROOM);
    }
    for (String none : new String[] {"x", "ttttttttt", "1", "12345", "by", "#", ";"}) {
      b.fault(" ".repeat(TEXT_ROOM - none.length()) + none, 1, TEXT_ROOM - none.length());
    }
  }

  private void tokensTheLongestThatCanBe() {
    b.says(TERMS, "TOKENS, the longest that can be, with blanks (9, 10, 13, 32) between or not:");
    b.taken("row th;kick k6by1 0;drift=if along<2then 3else 4;");
    b.taken("row\tth\t;\tkick\nk\n6\nby\r1\r0\r; \t\n\r");
    b.fault("rowth;", 1, 0);
    b.fault("row th;kick k 6 by 10;", 1, 21);
    b.fault(BASE + "faces2;drift=faces;", 1, BASE.length() + 13);
    b.fault(BASE + "drift=seconds;", 1, BASE.length() + 6);
    b.fault(BASE + "drift=if 1<2 then 3 elseif 1<2 then 3 else 4;", 1, BASE.length() + 20);
    for (int sign = 0; sign < 256; sign++) {
      String text = "row" + (char) sign + "th;" + KICK;
      if (BLANKS.indexOf(sign) >= 0) {
        b.taken(text);
      } else if (sign >= 'a' && sign <= 'z') {
        b.fault(text, 1, 0);
      } else {
        b.fault(text, 1, 3);
      }
    }
  }

  private void namesOf8LettersAtMost() {
    b.says(TERMS, "NAMES (letters a .. z, 8 at most,");
    b.taken("row h;kick abcdefgh 6 by 1 0;kick z 6 by 1 0;");
    b.taken("row tttttttt;" + KICK);
    b.fault("row h;kick abcdefghi 6 by 1 0;", 1, 11);
    b.fault("row ttttttttt;" + KICK, 1, 4);
    b.fault("row h;kick 6 by 1 0;", 1, 11);
    for (char letter = 'a'; letter <= 'z'; letter++) {
      b.taken("row h;kick " + letter + " 6 by 1 0;");
    }
    for (char none : new char[] {'a' - 1, 'z' + 1, 'A', 'Z', '_', 'a' + 128, 'z' + 128}) {
      b.fault("row h;kick " + none + " 6 by 1 0;", 1, 11);
      b.fault("row h;kick a" + none + " 6 by 1 0;", 1, 12);
    }
  }

  private void namesAreNoneOfTheWords() {
    b.says(TERMS, "none of the words in quotes),");
    for (String word : WORDS) {
      b.fault("row h;kick " + word + " 6 by 1 0;", 1, 11);
      b.fault("row " + word + ";", 1, 4);
      b.taken("row h;kick " + word + "x 6 by 1 0;");
      b.taken("row h;kick x" + word + " 6 by 1 0;");
      if (!word.equals("faces")) {
        b.taken("row h;kick " + word.substring(0, word.length() - 1) + " 6 by 1 0;");
      }
    }
    b.taken("row h;kick text 6 by 1 0;kick tell 6 by 1 0;kick lost 6 by 1 0;kick wait 6 by 1 0;");
  }

  private void intsOf1To4Digits() {
    b.says(TERMS, "INTS (1 to 4 digits),");
    b.taken(BASE + "seed 0;seed 00;seed 000;seed 0000;seed 9;seed 99;seed 999;seed 9999;");
    b.taken(BASE + "seed 1234;seed 5678;seed 9012;");
    b.fault(BASE + "seed 00000;", 1, BASE.length() + 5);
    b.fault(BASE + "seed 10000;", 1, BASE.length() + 5);
    b.fault(BASE + "seed 99999999999999999999;", 1, BASE.length() + 5);
    b.fault(BASE + "drift=12345;", 1, BASE.length() + 6);
    b.fault(BASE + "seed :;", 1, BASE.length() + 5);
    b.fault(BASE + "seed 1:;", 1, BASE.length() + 6);
    b.fault(BASE + "seed 1/;", 1, BASE.length() + 6);
    b.fault(BASE + "seed 1a;", 1, BASE.length() + 6);
    StoneHome x = b.on(BASE + "takes 0099;cars=second-9999+1;");
    b.due("0099 is 99", x.count(4), 99);
    b.due("9999 is 9999", x.cars(0, 0, 9999), 1);
    b.due("9999 is 9999", x.cars(0, 0, 9998), 0);
  }

  private void signs() {
    b.says(TERMS, "SIGNS ; = + - * / < ( ) .");
    b.taken("row th;kick k 6 by 1-0;drift=if(1)+1-1*1/1<2then 3else 4;");
    for (int sign = 0; sign < 256; sign++) {
      boolean joins = "+-*/".indexOf(sign) >= 0;
      boolean more = sign >= '0' && sign <= '9' || BLANKS.indexOf(sign) >= 0;
      String text = BASE + "drift=1" + (char) sign + "1;";
      if (joins || sign == ';') {
        b.fault(text + "#", 1, BASE.length() + (joins ? 10 : 8));
      } else if (!more) {
        b.fault(text, 1, BASE.length() + 7);
      }
    }
  }

  private void allElseIsNoToken() {
    b.says(TERMS, "A longer one, all else, is no TOKEN.");
    for (int sign = 0; sign < 256; sign++) {
      String text = BASE + (char) sign;
      if (BLANKS.indexOf(sign) >= 0) {
        b.taken(text);
      } else {
        b.fault(text, 1, BASE.length());
      }
      b.fault("row " + (char) sign + "123456789;", 1, sign >= 'a' && sign <= 'z' || BLANKS.indexOf(sign) >= 0 ? 5 : 4);
    }
    b.fault("row tttttttttttttttttttttt;", 1, 4);
    b.fault("rowrowrowrow", 1, 0);
    for (char sign : SIGNS.toCharArray()) {
      b.fault("row th" + " ".repeat(3) + "000" + (int) sign, 1, 9);
      b.fault("row th " + "x".repeat(sign), 1, 7);
      b.fault("drift=000" + (int) sign + "1", 1, 6);
      b.fault("drift=" + "x".repeat(sign) + "1", 1, 6);
    }
  }

  private void textMayHaveNoTell() {
    b.says(TERMS, "text: {TELL}.");
    b.fault("", 7, 0);
    b.fault(" \t\n\r", 7, 4);
    b.fault(";", 1, 0);
    b.fault(BASE + ";", 1, BASE.length());
    b.taken(KICK + "row th;");
  }

  private void eachTellIsWhole() {
    b.says(TERMS, "TELL: 'row' NAME ';' | 'faces' INT ';' | 'kick' NAME {OUTCOME} ';' | ('drift' | 'runs' | 'cars') LAW ';'"
        + " | 'stone' INT INT INT ';' | 'friend' INT INT INT ';' | 'lives' INT ';' | 'takes' INT ';' | 'seed' INT ';'.");
    String[] tells = {"row th ;", "faces 2 ;", "kick j 6 by 1 - 0 turn 1 ;", "kick j 3 by 1 0 3 by 0 0 ;", "stone 0 0 0 ;",
        "drift = if 1 < 2 then 3 else ( along + 2 ) * 3 ;", "runs = 1 ;", "cars = second / 2 ;", "friend 0 0 0 ;",
        "lives 2 ;", "takes 99 ;", "seed 9999 ;"};
    for (String tell : tells) {
      b.taken(BASE + tell);
      for (int to = tell.lastIndexOf(' '); to > 0; to = tell.lastIndexOf(' ', to - 1)) {
        String cut = BASE + tell.substring(0, to);
        b.fault(cut, 1, cut.length());
        b.fault(cut + " ", 1, cut.length() + 1);
      }
    }
    b.fault(BASE + "kick j;", 5, BASE.length() + 5);
  }

  private void outcomeMayHaveMinusAndTurn() {
    b.says(TERMS, "OUTCOME: INT 'by' INT ['-'] INT ['turn' INT].");
    b.taken("row th;kick k 6 by 1 0;kick l 6 by 1 - 0;kick m 6 by 1 0 turn 0;kick n 6 by 1 - 0 turn 0;");
    b.fault("kick k 6 by 1 - - 0;", 1, 16);
    b.fault("kick k 6 by 1 0 turn 0 turn 0;", 1, 23);
    b.fault("kick k 6 by - 1 0;", 1, 12);
    b.fault("kick k 6 by 1 0 turn - 1;", 1, 21);
    b.fault("kick k - 6 by 1 0;", 1, 7);
    b.fault("kick k 6 by 1 + 0;", 1, 14);
  }

  private void lawMayHaveNoIf() {
    b.says(TERMS, "LAW: '=' {'if' E '<' E 'then' E 'else'} E.");
    b.taken(BASE + "drift=0;runs=if 1<2 then 3 else 4;cars=if 1<2 then 3 else if 1<2 then 3 else 4;");
    b.fault("drift=;", 1, 6);
    b.fault("drift=if 1 < 2 then 3;", 1, 21);
    b.fault("drift=if 1 < 2 then 3 else;", 1, 26);
    b.fault("drift=if 1 < 2 then if 1 < 2 then 3 else 4 else 5;", 1, 20);
    b.fault("drift=1 + if 1 < 2 then 3 else 4;", 1, 10);
    b.fault("drift=(if 1 < 2 then 3 else 4);", 1, 7);
    b.fault("drift=if 1 < 2 < 3 then 4 else 5;", 1, 15);
    b.fault("drift=if 1 then 4 else 5;", 1, 11);
  }

  private void formulaOfParts() {
    b.says(TERMS, "E: PART {('+' | '-') PART}.");
    b.taken(BASE + "drift=1;drift=1+1;drift=1-1;drift=1+1-1+1-1;");
    b.fault("drift=-1;", 1, 6);
    b.fault("drift=+1;", 1, 6);
    b.fault("drift=1+;", 1, 8);
    b.fault("drift=1+-1;", 1, 8);
  }

  private void partOfUnits() {
    b.says(TERMS, "PART: UNIT {('*' | '/') UNIT}.");
    b.taken(BASE + "drift=1*1;drift=1/1;drift=1*1/1*1/1;");
    b.fault("drift=*1;", 1, 6);
    b.fault("drift=1*;", 1, 8);
    b.fault("drift=1/*1;", 1, 8);
    b.fault("drift=1*-1;", 1, 8);
  }

  private void unitOrParentheses() {
    b.says(TERMS, "UNIT: INT | VAR | '(' E ')'.");
    b.taken(BASE + "drift=(1);drift=((along));drift=(1)*(1);");
    b.fault("drift=();", 1, 7);
    b.fault("drift=(1;", 1, 8);
    b.fault("drift=((1);", 1, 10);
    b.fault("drift=1);", 1, 7);
    b.fault("drift=(1));", 1, 9);
    b.fault("drift=1 1;", 1, 8);
    b.fault("drift=1(1);", 1, 7);
    b.fault("drift=(1)1;", 1, 9);
    b.fault("drift=(1)(1);", 1, 9);
    b.fault("drift=)1(;", 1, 6);
    b.fault("drift=if (1 < 2) then 3 else 4;", 1, 12);
    b.fault("drift=if 1 < (2 then 3 else 4;", 1, 16);
  }

  private void variables() {
    b.says(TERMS, "VAR: 'along' | 'across' | 'face' | 'sort' | 'which' | 'hard' | 'second'.");
    String vars = " along across face sort which hard second ";
    for (String word : WORDS) {
      if (vars.contains(" " + word + " ")) {
        b.taken(BASE + "drift=" + word + ";runs=2*" + word + ";cars=(" + word + ");");
      } else if (!word.equals("if")) {
        b.fault("drift=" + word + ";", 1, 6);
      }
      b.fault("drift=" + word + "x;", 1, 6);
      b.fault("drift=1+x" + word + ";", 1, 8);
    }
  }

  /** Behind what stands ahead of the bar a text goes on with these; with each other token it does not. */
  private static final String[] FOLLOWS = {
      "| row faces kick drift runs cars stone friend lives takes seed", "row | k", "row th | ;",
      "row th ; | row faces kick drift runs cars stone friend lives takes seed", "faces | 1", "faces 1 | ;", "kick | k",
      "kick j | 1 ;", "kick j 6 | by", "kick j 6 by | 1", "kick j 6 by 1 | 1 -", "kick j 6 by 1 - | 1",
      "kick j 6 by 1 0 | 1 turn ;", "kick j 6 by 1 - 0 | 1 turn ;", "kick j 6 by 1 0 turn | 1",
      "kick j 6 by 1 0 turn 0 | 1 ;", "stone | 1", "stone 0 | 1", "stone 0 0 | 1", "stone 0 0 0 | ;", "friend | 1",
      "friend 0 | 1", "friend 0 0 | 1", "friend 0 0 0 | ;", "lives | 1", "lives 1 | ;", "takes | 1", "takes 1 | ;",
      "seed | 1", "seed 1 | ;", "drift | =", "runs | =", "cars | =", "drift = | if 1 ( VAR", "drift = 1 | + - * / ;",
      "runs = along | + - * / ;", "cars = 1 + | 1 ( VAR", "drift = 1 - | 1 ( VAR", "drift = 1 * | 1 ( VAR",
      "drift = 1 / | 1 ( VAR", "drift = ( | 1 ( VAR", "drift = ( 1 | + - * / )", "drift = ( 1 ) | + - * / ;",
      "drift = if | 1 ( VAR", "drift = if 1 | + - * / <", "drift = if 1 < | 1 ( VAR", "drift = if 1 < 2 | + - * / then",
      "drift = if 1 < 2 then | 1 ( VAR", "drift = if 1 < 2 then 3 | + - * / else", "drift = if 1 < 2 then 3 else | if 1 ( VAR",
      "drift = if 1 < 2 then 3 else 4 | + - * / ;"};

  private void syntaxIsWhatNoTextGoesOnWith() {
    b.says(TERMS, "1 SYNTAX: a TOKEN, or what is none, with which no text goes on.");
    for (String follow : FOLLOWS) {
      int bar = follow.indexOf('|');
      String allowed = follow.substring(bar + 1).replace("VAR", "along across face sort which hard second") + " ";
      String ahead = BASE + follow.substring(0, bar);
      for (String word : WORDS) {
        goesOn(ahead, word, allowed.contains(" " + word + " "));
      }
      for (char sign : SIGNS.toCharArray()) {
        goesOn(ahead, "" + sign, allowed.contains(" " + sign + " "));
      }
      goesOn(ahead, "k", allowed.contains(" k "));
      goesOn(ahead, "1", allowed.contains(" 1 "));
      for (String none : new String[] {"#", "abcdefghi", "12345", "K", "" + (char) 0, "" + (char) 255}) {
        goesOn(ahead, none, false);
      }
    }
  }

  /** Where it does go on, the fault is at the text's end, or none of syntax if the token ends a TELL. */
  private void goesOn(String ahead, String token, boolean does) {
    String text = ahead + token;
    if (!does) {
      b.fault(text, 1, ahead.length());
    } else if (token.equals(";")) {
      b.due("read of " + text, Checks.read(new StoneHome(), text) != 1, true);
    } else {
      b.fault(text, 1, text.length());
    }
  }
}
