import java.util.NoSuchElementException;

/** Counts the answers that are not as due; tells texts to an object. */
final class Due {
  static final long THROWS = Long.MIN_VALUE + 5;
  private static int wrong = 0;
  private static String at = "";

  private Due() {}

  interface Call { long answer(); }

  /** What the checks that follow are about. */
  static void about(String what) { at = what; }

  /** The checks that follow are of this sentence of a promise; the document must say it so. */
  static void of(int promise, String sentence) { of("Promise " + promise, sentence); }

  /** The checks that follow are of this sentence of the document's Terms. */
  static void terms(String sentence) { of("Terms", sentence); }

  static void of(String heading, String sentence) {
    at = heading + ", \"" + sentence + "\"";
    is("the document says so", Doc.says(heading, sentence), true);
  }

  static void is(String call, long got, long due) {
    if (got != due) {
      wrong++;
      System.out.println(at + ": " + call + " answered " + told(got) + ", due is " + told(due));
    }
  }

  static void is(String call, boolean got, boolean due) { is(call, got ? 1 : 0, due ? 1 : 0); }

  static void thrown(String call, Call it) {
    long got;
    try {
      got = it.answer();
    } catch (NoSuchElementException e) {
      got = THROWS;
    }
    is(call, got, THROWS);
  }

  private static String told(long answer) { return answer == THROWS ? "NoSuchElementException" : String.valueOf(answer); }

  /** The numbers of the ROW, all of them. */
  static void row(FaultLists x, long... due) {
    is("count(11)", x.count(11), due.length);
    for (int i = 0; i < due.length && i < x.count(11); i++) is("row(" + i + ")", x.row(i), due[i]);
    thrown("row(" + due.length + ")", () -> x.row(due.length));
    thrown("row(-1)", () -> x.row(-1));
  }

  /** THE TEXT is these signs. */
  static void text(FaultLists x, String signs) {
    is("end(0)", x.end(0), true);
    for (int p = 0; p < signs.length(); p += 4) {
      int v = 0;
      for (int i = 0; i < 4; i++) v = v << 8 | (p + i < signs.length() ? signs.charAt(p + i) : 0);
      is("sign", x.sign(v), p + 4);
    }
    is("end(" + signs.length() + ")", x.end(signs.length()), true);
  }

  static FaultLists withNet(String net, int faults) {
    FaultLists x = new FaultLists();
    text(x, net);
    is("net() of " + net, x.net(), faults);
    return x;
  }

  static void applies(FaultLists x, String patterns, int detected, long faults) {
    text(x, patterns);
    is("applies() of " + patterns, x.applies(), detected);
    row(x, faults);
  }

  /** Numbers that are none of 0 .. n - 1: next to them, far off, and such as lose their bits to be one. */
  static int[] outside(int n) {
    int[] some = {Integer.MIN_VALUE, Integer.MIN_VALUE + 1, -65536, -256, -64, -33, -32, -2, -1, n, n + 1, 32, 33, 64, 65,
        128, 256, 257, 65536, 1 << 30, Integer.MAX_VALUE - 1, Integer.MAX_VALUE};
    return java.util.Arrays.stream(some).filter(i -> i < 0 || i >= n).distinct().toArray();
  }

  static long bits(int... set) {
    long b = 0;
    for (int i : set) b |= 1L << i;
    return b;
  }

  static void leave() {
    System.out.println(wrong == 0 ? "all answers are as due" : wrong + " answers are not as due");
    if (wrong != 0) System.exit(1);
  }
}
