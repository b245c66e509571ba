import java.util.ArrayList;
import java.util.List;

/** All that can be seen of an object; it cannot be used further, since what is undone, held, on the tape is seen by using it. */
final class Picture {
  private final StoneHome x;
  private final List<String> seen = new ArrayList<>();

  private Picture(StoneHome x) {
    this.x = x;
  }

  static List<String> of(StoneHome x) {
    Picture picture = new Picture(x);
    picture.see("place()", x.place());
    picture.lookNow();
    picture.lookAtStreet();
    picture.lookAhead();
    picture.lookAtTold();
    picture.undoAll();
    picture.restoreAll();
    picture.readTape();
    return picture.seen;
  }

  /** As of(), but for where the latest fault was. */
  static List<String> withoutPlace(StoneHome x) {
    List<String> all = of(x);
    return all.subList(1, all.size());
  }

  private void see(String what, int answer) {
    seen.add(what + " = " + answer);
  }

  private void lookNow() {
    for (int what = 0; what <= 8; what++) {
      see("now(" + what + ")", x.now(what));
    }
    for (int what = 0; what <= 10; what++) {
      see("count(" + what + ")", x.count(what));
    }
    see("can()", x.can());
  }

  private void lookAtStreet() {
    for (int across = 0; across < 4; across++) {
      for (int along = 0; along < 8; along++) {
        see("square(" + along + ", " + across + ")", x.square(along, across));
      }
      see("cars(1, " + across + ", 40)", x.cars(1, across, 40));
    }
  }

  private void lookAhead() {
    for (int what = 0; what <= 3; what++) {
      see("brings(0, 0, " + what + ")", x.brings(0, 0, what));
    }
    for (int n = 1; n <= 4; n += 3) {
      see("home(" + n + ") above", x.home(n, false));
      see("home(" + n + ") below", x.home(n, true));
      see("best(" + n + ")", x.best(n));
      see("rule(0, " + n + ")", x.rule(0, n, true));
    }
    see("first(2) above", x.first(2, false));
    see("first(2) below", x.first(2, true));
  }

  private void lookAtTold() {
    for (int k = 0; k <= 5; k++) {
      see("fits(" + k + ", NONE)", x.fits(k, StoneHome.NONE));
      see("often(" + k + ", 0)", x.often(k, 0));
    }
  }

  private void undoAll() {
    for (int i = 0; i < 60 && x.undo(); i++) {
      see("along, undone", x.now(0));
      see("across, undone", x.now(1));
      see("kicks and waits, undone", x.now(4));
      see("touches, undone", x.now(6));
    }
  }

  private void restoreAll() {
    for (int slot = 0; slot < 3; slot++) {
      see("restore(" + slot + ")", x.restore(slot) ? 1 : 0);
      for (int what = 0; what <= 8; what++) {
        see("now(" + what + "), held", x.now(what));
      }
    }
  }

  private void readTape() {
    see("read()", x.read());
    see("place() behind it", x.place());
    for (int what = 0; what <= 6; what++) {
      see("count(" + what + "), read", x.count(what));
    }
  }
}
