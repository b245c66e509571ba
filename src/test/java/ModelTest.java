import java.nio.charset.StandardCharsets;
import java.util.Random;

/** Runs of calls by chance, each answered by StoneHome and by the Model alike. */
public final class ModelTest {
  private static final Checks CHECKS = new Checks("ModelTest");

  private final Random random;
  private final Texts texts;
  private StoneHome home = new StoneHome();
  private Model model = new Model();
  private final StringBuilder story = new StringBuilder();

  private ModelTest(long seed) {
    random = new Random(seed);
    texts = new Texts(seed * 31 + 7);
    story.append("seed ").append(seed).append(": ");
  }

  public static void main(String[] args) {
    int runs = args.length > 0 ? Integer.parseInt(args[0]) : 700;
    long first = args.length > 1 ? Long.parseLong(args[1]) : 1;
    for (long seed = first; seed < first + runs && CHECKS.isClean(); seed++) {
      new ModelTest(seed).run();
    }
    CHECKS.end();
  }

  private void run() {
    int most = random.nextInt(20) == 0 ? 200 : 60;
    int reads = 0;
    for (int i = 0; i < most && CHECKS.isClean(); i++) {
      if (i == 2 || random.nextInt(40) == 0 && reads < 4) {
        reads++;
        readText();
      } else if (random.nextInt(3) == 0) {
        move();
      } else {
        ask();
      }
    }
    if (!CHECKS.isClean()) {
      System.out.println(story);
    }
  }

  private void readText() {
    java.util.List<String> tokens = texts.whole();
    String text = texts.joined(random.nextInt(3) == 0 ? texts.spoiled(tokens) : tokens);
    story.append("\n[").append(text).append("] ");
    byte[] bytes = text.getBytes(StandardCharsets.ISO_8859_1);
    home.back(home.count(6));
    model.back(model.count(6));
    for (int at = 0; at < bytes.length; at += 20) {
      int[] words = new int[5];
      for (int i = 0; i < 20; i++) {
        words[i / 4] = words[i / 4] << 8 | (at + i < bytes.length ? bytes[at + i] & 255 : 32);
      }
      due("feed", home.feed(words[0], words[1], words[2], words[3], words[4]),
          model.feed(words[0], words[1], words[2], words[3], words[4]));
    }
    int filling = (20 - bytes.length % 20) % 20;
    due("back", home.back(filling), model.back(filling));
    due("read", home.read(), model.read());
    due("place", home.place(), model.place());
    if (random.nextInt(3) == 0) {
      leaveScratches();
    }
  }

  /** Tells where it lies behind each kick, so that some row of kicks does fit. */
  private void leaveScratches() {
    for (int i = 0; i < 5; i++) {
      int kick = from(0, 3);
      due("kick(" + kick + ")", home.kick(kick), model.kick(kick));
      int along = home.now(0);
      int across = home.now(1);
      due("tell(" + along + " " + across + ")", home.tell(along, across), model.tell(along, across));
    }
    for (int k = -1; k <= 6; k++) {
      int many = model.fits(k, -1);
      due("fits(" + k + " -1)", home.fits(k, -1), many);
      for (int i = 0; i <= many && i < 40; i++) {
        due("fits(" + k + " " + i + ")", home.fits(k, i), model.fits(k, i));
        due("often(" + k + " " + i + ")", home.often(k, i), model.often(k, i));
      }
    }
  }

  private void due(String what, long got, long want) {
    story.append(what).append(' ');
    CHECKS.due(what, got, want);
  }

  private void due(String what, boolean got, boolean want) {
    due(what, got ? 1 : 0, want ? 1 : 0);
  }

  private int from(int least, int most) {
    return least + random.nextInt(most - least + 1);
  }

  private int odd(int least, int most) {
    return random.nextInt(200) == 0 ? random.nextInt() : from(least, most);
  }

  private void move() {
    int kick = odd(-1, 3);
    int way = odd(-1, 4);
    int slot = odd(-1, 3);
    switch (random.nextInt(10)) {
      case 0, 1, 2 -> due("kick(" + kick + ")", home.kick(kick), model.kick(kick));
      case 3 -> due("waits()", home.waits(), model.waits());
      case 4, 5 -> due("touch(" + way + ")", home.touch(way), model.touch(way));
      case 6 -> due("undo()", home.undo(), model.undo());
      case 7 -> due("hold(" + slot + ")", home.hold(slot), model.hold(slot));
      case 8 -> due("restore(" + slot + ")", home.restore(slot), model.restore(slot));
      default -> bytes();
    }
    for (int what = -1; what <= 9; what++) {
      due("now(" + what + ")", home.now(what), model.now(what));
    }
    for (int what = -1; what <= 11; what++) {
      due("count(" + what + ")", home.count(what), model.count(what));
    }
  }

  private void bytes() {
    int n = odd(-1, 30);
    int word = random.nextInt();
    if (random.nextBoolean()) {
      due("feed", home.feed(word, 1, 2, 3, 4), model.feed(word, 1, 2, 3, 4));
    } else {
      due("back(" + n + ")", home.back(n), model.back(n));
    }
  }

  private void ask() {
    int n = odd(-1, random.nextInt(3) == 0 ? 11 : 5);
    boolean flag = random.nextBoolean();
    boolean below = random.nextBoolean();
    int kick = odd(-1, 4);
    int along = odd(-1, 8);
    int across = odd(-1, 4);
    int k = odd(-1, 6);
    int i = odd(-2, random.nextInt(2) == 0 ? 60 : 4);
    String args = "(" + n + " " + flag + " " + below + " " + kick + " " + along + " " + across + " " + k + " " + i + ")";
    switch (random.nextInt(22)) {
      case 0 -> due("square" + args, home.square(along, across), model.square(along, across));
      case 1 -> {
        int second = odd(0, 60);
        due("cars" + args + second, home.cars(along, across, second), model.cars(along, across, second));
      }
      case 2 -> {
        for (int what = -1; what <= 4; what++) {
          due("brings" + args, home.brings(kick, k, what), model.brings(kick, k, what));
        }
      }
      case 3 -> due("home" + args, home.home(n, below), model.home(n, below));
      case 4 -> due("best" + args, home.best(n), model.best(n));
      case 5 -> due("sure" + args, home.sure(n), model.sure(n));
      case 6 -> {
        int p = odd(-1, 101);
        due("least" + p, home.least(p), model.least(p));
      }
      case 7 -> due("rule" + args, home.rule(kick, n, below), model.rule(kick, n, below));
      case 8, 9 -> due("comes" + args, home.comes(kick, n, along, across, below), model.comes(kick, n, along, across, below));
      case 10, 11 -> due("worth" + args, home.worth(n, flag, below), model.worth(n, flag, below));
      case 12 -> due("face" + args, home.face(n), model.face(n));
      case 13 -> due("side" + args, home.side(n), model.side(n));
      case 14 -> due("goBy" + args, home.goBy(n), model.goBy(n));
      case 15 -> due("plan" + args, home.plan(n, along, across), model.plan(n, along, across));
      case 16 -> due("trap" + args, home.trap(n), model.trap(n));
      case 17 -> due("first" + args, home.first(n, below), model.first(n, below));
      case 18 -> due("can", home.can(), model.can());
      case 19 -> {
        if (random.nextInt(8) == 0) {
          due("forget", home.forget(), model.forget());
        }
        due("tell" + args, home.tell(along, across), model.tell(along, across));
      }
      case 20 -> due("fits" + args, home.fits(k, i), model.fits(k, i));
      default -> due("often" + args, home.often(k, i), model.often(k, i));
    }
  }
}
