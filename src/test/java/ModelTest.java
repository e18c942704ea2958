import java.util.NoSuchElementException;

/** Runs of calls, each answer and each row held against the model's. */
public final class ModelTest {
  private static final long THROWN = Long.MIN_VALUE + 77;
  private static final int CALLS = 512;

  private final FaultLists real = new FaultLists();
  private final Model model = new Model();
  private final Chance chance;
  private final StringBuilder story = new StringBuilder();
  private int calls = 0;
  private int wrong = 0;

  private ModelTest(long seed) { chance = new Chance(seed); }

  private interface Call { long answer(); }

  private static long answerOf(Call call) {
    try {
      return call.answer();
    } catch (NoSuchElementException e) {
      return THROWN;
    }
  }

  private static long oneIf(boolean b) { return b ? 1 : 0; }

  private long check(String what, Call realCall, Call modelCall) {
    if (calls >= CALLS || wrong > 0) return 0;
    calls++;
    long got = answerOf(realCall);
    long due = answerOf(modelCall);
    story.append(what).append(" = ").append(got == THROWN ? "thrown" : String.valueOf(got)).append("; ");
    if (got != due) {
      wrong++;
      System.out.println(Doc.promiseOf(what) + ": " + story + "due is " + (due == THROWN ? "thrown" : String.valueOf(due)));
    }
    return got;
  }

  private void checkRow() {
    long n = check("count(11)", () -> real.count(11), () -> model.count(11));
    for (int i = 0; i <= n; i++) {
      int at = i;
      check("row(" + i + ")", () -> real.row(at), () -> model.row(at));
    }
  }

  private void feed(String text) {
    check("end(0)", () -> oneIf(real.end(0)), () -> oneIf(model.end(0)));
    for (int p = 0; p < text.length(); p += 4) {
      int v = 0;
      for (int i = 0; i < 4; i++) v = v << 8 | (p + i < text.length() ? text.charAt(p + i) : 0);
      int signs = v;
      check("sign(" + v + ")", () -> real.sign(signs), () -> model.sign(signs));
    }
    int n = Math.min(80, text.length());
    check("end(" + n + ")", () -> oneIf(real.end(n)), () -> oneIf(model.end(n)));
  }

  private void tellNet() {
    String text = chance.net();
    if (chance.oneIn(4)) text = chance.spoiled(text);
    feed(text);
    story.append('[').append(text).append("] ");
    long answer = check("net()", real::net, model::net);
    for (int k = 0; k < 5 && answer < 0; k++) {
      int at = k;
      check("cause(" + k + ", 0)", () -> real.cause(at, 0), () -> model.cause(at, 0));
      check("cause(" + k + ", 1)", () -> real.cause(at, 1), () -> model.cause(at, 1));
    }
  }

  private void applyPatterns() {
    int inputs = (int) model.count(1);
    int n = chance.oneIn(12) ? chance.between(8, 25) : chance.between(0, 5);
    String text = chance.values(Math.min(80, n * inputs), 7);
    if (chance.oneIn(15)) text = chance.spoiled(text);
    feed(text);
    if (chance.oneIn(4)) check("would()", real::would, model::would);
    else check("applies()", real::applies, model::applies);
    checkRow();
  }

  private void blame() {
    int outputs = (int) model.count(4);
    int n = Math.min((int) model.count(6), 80 / outputs) - (chance.oneIn(4) ? chance.below(3) : 0);
    String text = chance.values(Math.max(0, n) * outputs, chance.between(1, 5));
    if (chance.oneIn(15)) text = chance.spoiled(text);
    feed(text);
    check("blames()", real::blames, model::blames);
    checkRow();
    check("parts()", real::parts, model::parts);
    checkRow();
  }

  /** A number of 0 .. n - 1, one next to them, or now and then one far off. */
  private int some(int n) {
    if (!chance.oneIn(12)) return chance.between(-1, n);
    int[] far = Due.outside(n);
    return far[chance.below(far.length)];
  }

  private int someLine() { return some((int) model.count(0)); }

  private int someFault() { return some((int) model.count(5)); }

  private void ask() {
    int a = some(20);
    int b = some(9);
    int r = some(8);
    int line = someLine();
    int fault = someFault();
    switch (chance.below(17)) {
      case 0: check("line(" + line + ", " + b + ")", () -> real.line(line, b), () -> model.line(line, b)); break;
      case 1: check("pin(" + a + ")", () -> real.pin(a), () -> model.pin(a)); break;
      case 2: check("value(" + line + ")", () -> real.value(line), () -> model.value(line)); break;
      case 3:
        check("faulty(" + fault + ", " + line + ")", () -> real.faulty(fault, line), () -> model.faulty(fault, line));
        break;
      case 4: check("holds(" + line + ")", () -> real.holds(line), () -> model.holds(line)); break;
      case 5: check("detected()", real::detected, model::detected); break;
      case 6: check("when(" + fault + ")", () -> real.when(fault), () -> model.when(fault)); break;
      case 7: check("sample(" + b + ", " + r + ")", () -> real.sample(b, r), () -> model.sample(b, r)); break;
      case 8: check("critical(" + line + ")", () -> real.critical(line), () -> model.critical(line)); break;
      case 9: check("classes()", real::classes, model::classes); break;
      case 10: check("classOf(" + fault + ")", () -> real.classOf(fault), () -> model.classOf(fault)); break;
      case 11: check("tests(" + fault + ")", () -> real.tests(fault), () -> model.tests(fault)); break;
      case 12: check("needless()", real::needless, model::needless); break;
      case 13: check("shorter()", real::shorter, model::shorter); break;
      case 14: {
        int seed = chance.oneIn(3) ? chance.below(9) - 4 : (int) (chance.below(1 << 30) * 2654435761L);
        int n = some(25);
        check("drawn(" + seed + ", " + n + ")", () -> real.drawn(seed, n), () -> model.drawn(seed, n));
        break;
      }
      case 15: check("parts()", real::parts, model::parts); break;
      default: check("count(" + a + ")", () -> real.count(a), () -> model.count(a)); break;
    }
    checkRow();
  }

  private void change() {
    int i = some(2);
    int signs = chance.below(1 << 30) * 4;
    switch (chance.below(7)) {
      case 0: check("begins()", real::begins, model::begins); break;
      case 1: check("drops(" + i + ")", () -> real.drops(i), () -> model.drops(i)); break;
      case 2: check("drops(1)", () -> real.drops(1), () -> model.drops(1)); break;
      case 3: check("keep(" + i + ")", () -> oneIf(real.keep(i)), () -> oneIf(model.keep(i))); break;
      case 4: check("again(" + i + ")", () -> oneIf(real.again(i)), () -> oneIf(model.again(i))); break;
      case 5: check("sign(" + signs + ")", () -> real.sign(signs), () -> model.sign(signs)); break;
      default: check("end(" + i + ")", () -> oneIf(real.end(i)), () -> oneIf(model.end(i))); break;
    }
  }

  private void askHidden() {
    check("hidden()", real::hidden, model::hidden);
    checkRow();
  }

  private int run() {
    for (int step = 0; step < 400 && calls < CALLS && wrong == 0; step++) {
      int which = chance.below(60);
      if (which < 6 || step == 0) tellNet();
      else if (which < 20) applyPatterns();
      else if (which < 26) blame();
      else if (which < 35) change();
      else if (which < 36) askHidden();
      else ask();
      check("count(12)", () -> real.count(12), () -> model.count(12));
    }
    return wrong;
  }

  public static void main(String[] args) {
    int runs = args.length > 0 ? Integer.parseInt(args[0]) : 1000;
    int from = args.length > 1 ? Integer.parseInt(args[1]) : 0;
    int wrong = 0;
    int calls = 0;
    for (int i = from; i < from + runs; i++) {
      ModelTest test = new ModelTest(i);
      wrong += test.run();
      calls += test.calls;
    }
    System.out.println(calls + " calls in " + runs + " runs, " + wrong + " wrong");
    if (wrong != 0) System.exit(1);
  }
}
