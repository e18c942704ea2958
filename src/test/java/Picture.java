import java.util.NoSuchElementException;

/**
 * All that an object tells of itself, as a text. Two objects that were told the same have the same
 * picture; it takes some 300 calls, so that an object has one picture, and it is used up by it.
 */
final class Picture {
  private final FaultLists x;
  private final StringBuilder told = new StringBuilder();

  private Picture(FaultLists x) { this.x = x; }

  static String of(FaultLists x) {
    Picture p = new Picture(x);
    p.row();
    return p.rest();
  }

  static String withoutRow(FaultLists x) { return new Picture(x).rest(); }

  private void put(String what, long answer) { told.append(what).append('=').append(answer).append(' '); }

  private void row() {
    int n = x.count(11);
    told.append("ROW");
    for (int i = 0; i < n; i++) told.append(' ').append(x.row(i));
    told.append("; ");
  }

  private String rest() {
    for (int k = 0; k < 5; k++) put("cause", 10 * x.cause(k, 0) + x.cause(k, 1));
    state();
    net();
    when(x.count(5));
    text();
    kept();
    return told.toString();
  }

  private void state() {
    for (int what = 0; what <= 12; what++) if (what != 11) put("count" + what, x.count(what));
    put("detected", x.detected());
    row();
    put("parts", x.parts());
    put("needless", x.needless());
    row();
    put("shorter", x.shorter());
    row();
  }

  private void net() {
    int lines = x.count(0);
    int pins = x.count(3);
    for (int k = 0; k < lines; k++) {
      for (int what = 0; what <= 5; what++) put("line", x.line(k, what));
      put("value", x.value(k));
      row();
      put("holds", x.holds(k));
      row();
    }
    for (int p = 0; p < pins; p++) put("pin", x.pin(p));
    for (int f = 0; f < 2 * (lines + pins); f++) put("faulty", x.faulty(f, lines - 1));
  }

  private void when(int faults) {
    for (int f = 0; f < faults; f++) {
      long tick = x.when(f);
      put("when" + f, tick);
      if (tick >= 0) row();
    }
  }

  /** THE TEXT by what it would do, which empties it. */
  private void text() {
    put("would", x.would());
    row();
  }

  private void kept() {
    for (int i = 0; i < 2; i++) {
      told.append("kept").append(x.again(i));
      for (int what = 0; what <= 10; what++) put("", x.count(what));
    }
  }

  /** Whether a call throws NoSuchElementException; what it answers else is not looked at. */
  static boolean throwsNone(Due.Call call) {
    try {
      call.answer();
      return false;
    } catch (NoSuchElementException e) {
      return true;
    }
  }
}
