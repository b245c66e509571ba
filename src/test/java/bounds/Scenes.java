import java.nio.charset.StandardCharsets;
import java.util.List;
import java.util.function.Consumer;

/** How it may stand with a stone: something of each kind that a call could change by mistake. */
final class Scenes {
  static final List<Consumer<StoneHome>> ALL =
      List.of(Scenes::fresh, Scenes::busy, Scenes::parked, Scenes::atHome, Scenes::lost);
  /** In which it is home, or lost for good. */
  static final List<Consumer<StoneHome>> OVER = List.of(Scenes::atHome, Scenes::lost);

  static final String TEXT = "row tttpth;row tgtwtt;faces 2;kick a 6 by 1 0 turn 1;kick b 3 by 1 1 3 by 0 0;"
      + "kick c 6 by 0 - 2;lives 1;friend 1 0 0;takes 7;seed 12;cars = if across < 1 then 0 else second - 30;";

  /** On the tape behind each scene: no whole text, so that it is seen where it ends. */
  static final String ON_TAPE = "row th;kick k 6 by 1";

  /** A new one, with nothing done. */
  static void fresh(StoneHome x) {
    x.place();
  }

  /** On tar at 2, 0 with face 1 and a life: two done, one touch, two told, slot 1 held, twenty bytes on the tape. */
  static void busy(StoneHome x) {
    Checks.read(x, TEXT);
    x.kick(0);
    x.hold(1);
    x.waits();
    x.touch(0);
    x.tell(1, 0);
    x.tell(2, 0);
    Checks.feed(x, ON_TAPE.getBytes(StandardCharsets.ISO_8859_1));
  }

  /** By the car that stands at 3, 0. */
  static void parked(StoneHome x) {
    busy(x);
    x.touch(0);
  }

  static void atHome(StoneHome x) {
    parked(x);
    x.touch(0);
    x.touch(0);
  }

  /** Lost for good, its life too. */
  static void lost(StoneHome x) {
    busy(x);
    x.kick(2);
    x.kick(2);
  }

  static StoneHome of(Consumer<StoneHome> scene) {
    StoneHome x = new StoneHome();
    scene.accept(x);
    return x;
  }

  /** So many blanks on an empty tape. */
  static void fill(StoneHome x, int bytes) {
    for (int i = 0; i < bytes; i += 20) {
      x.feed(0x20202020, 0x20202020, 0x20202020, 0x20202020, 0x20202020);
    }
    x.back((20 - bytes % 20) % 20);
  }

  private Scenes() {
  }
}
