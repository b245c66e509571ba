/** Each sentence of the document that names a boundary case, by itself; in the end, that no sentence was left out. */
public final class BoundaryTest {
  public static void main(String[] args) {
    Bounds bounds = new Bounds();
    new TokenBounds(bounds).look();
    new TextBounds(bounds).look();
    new KickBounds(bounds).look();
    new AheadBounds(bounds).look();
    new CallBounds(bounds).look();
    new KeptBounds(bounds).look();
    bounds.end();
  }

  private BoundaryTest() {
  }
}
