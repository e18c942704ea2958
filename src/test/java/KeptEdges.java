/** The edges that the document names of what is kept, of counts and the ROW, and of refused calls: Terms 2, promises 28 to 31. */
final class KeptEdges {
  private static final String AND = "2;&ab:c";
  private static final String ODD = "4;^ab;^bc;^cd;^da;^efg;^fgh;^ghe;^hef:ijkl";

  private KeptEdges() {}

  interface Ask { long of(FaultLists x); }

  static void all() {
    atMost();
    sets();
    questions();
    refused();
    refusedTexts();
    noneFirst();
    rowStays();
    keep();
    keepNone();
    again();
    againNone();
    count();
    countMost();
    countNone();
    row();
    rowNone();
  }

  private static long oneIf(boolean b) { return b ? 1 : 0; }

  private static long thrown(Due.Call call) { return Picture.throwsNone(call) ? Due.THROWS : 0; }

  private static void atMost() {
    Due.of("What it is", "An object is used for at most 512 calls after it has been made; what later calls answer is free.");
    // 14 calls, 467, 4, 26, and the 512th
    FaultLists x = Due.withNet(ODD, 64);
    for (int i = 0; i < 467; i++) x.count(i % 13);
    Due.is("end(0)", x.end(0), true);
    Due.is("sign", x.sign(0x30303030), 4);
    Due.is("end(4)", x.end(4), true);
    Due.is("applies()", x.applies(), 32);
    for (int i = 0; i < 26; i++) Due.is("hidden()", x.hidden(), 0);
    Due.is("row(1): the 512th", x.row(1), -1);
    // what asks for most, over and over: 15 calls, then 480
    FaultLists y = Due.withNet("4;#k1;#e;#f0;^abe;&hfg;|icd;^jgh;&ha:lkji", 58);
    for (int i = 0; i < 120; i++) {
      Due.is("keep(0)", y.keep(0), true);
      Due.is("again(0)", y.again(0), true);
      y.hidden();
      Due.is("count(11)", y.count(11), 3);
    }
  }

  private static void sets() {
    Due.terms("ROW: numbers told last by a call that says so.");
    FaultLists x = Due.withNet(AND, 10);
    Due.row(x);
    Due.is("hidden()", x.hidden(), 0);
    Due.row(x, 0, 1023, 1);
    Due.is("classOf(0)", x.classOf(0), 5);
    // the latest alone: a shorter one leaves nothing of the one before
    Due.row(x, 341);
    Due.is("begins()", x.begins(), 0);
    Due.is("count(5)", x.count(5), 10);
    Due.row(x, 341);
    Due.terms("Sets are bits (of LINES by their numbers; of FAULTS, up to 64, as a long).");
    FaultLists y = Due.withNet(ODD, 64);
    Due.text(y, "1111");
    // all of a .. d are 1, all else is 0
    Due.is("applies()", y.applies(), 32);
    Due.is("row(0) has FAULT 63", y.row(0) < 0, true);
    Due.is("when(63)", y.when(63), 0);
    Due.row(y, 1L << 11);
    Due.is("critical(11) has LINE 11", y.critical(11) >>> 11, 1);
    Due.is("classOf(63)", y.classOf(63), 1);
    Due.row(y, Long.MIN_VALUE);
  }

  private static void questions() {
    Due.terms("Questions change nothing.");
    Ask[] asks = {x -> x.cause(1, 0), x -> x.line(2, 0), x -> x.pin(3), x -> x.value(4), x -> x.faulty(5, 3), x -> x.holds(3),
        x -> x.holds(5), x -> x.detected(), x -> x.when(11), x -> x.sample(3, 1), x -> x.critical(4), x -> x.critical(5),
        x -> x.classes(), x -> x.classOf(8), x -> x.tests(10), x -> x.tests(23), x -> x.hidden(), x -> x.needless(),
        x -> x.shorter(), x -> x.parts(), x -> x.drawn(-5, 24), x -> x.count(10), x -> x.row(0)};
    String due = Picture.withoutRow(States.busy());
    for (int i = 0; i < asks.length; i++) {
      FaultLists x = States.busy();
      long first = asks[i].of(x);
      for (Ask other : asks) other.of(x);
      // the ROW is another one by then
      if (i < asks.length - 1) Due.is("question " + i + " asked again", asks[i].of(x), first);
      Due.is("all is as it was behind question " + i, Picture.withoutRow(x).equals(due), true);
    }
  }

  private static void asIs(String due, String call, Ask ask, long answer) {
    FaultLists x = States.busy();
    Due.is(call, ask.of(x), answer);
    Due.is("all is as it was, the ROW, too, behind " + call, Picture.of(x).equals(due), true);
  }

  private static void refused() {
    Due.terms("Refused calls answer NONE, or false, and change nothing");
    String due = Picture.of(States.busy());
    for (int n : new int[] {-1, 4, Integer.MIN_VALUE, Integer.MAX_VALUE}) {
      asIs(due, "end(" + n + ")", x -> oneIf(x.end(n)), 0);
    }
    for (int i : Due.outside(2)) {
      asIs(due, "keep(" + i + ")", x -> oneIf(x.keep(i)), 0);
      asIs(due, "again(" + i + ")", x -> oneIf(x.again(i)), 0);
      asIs(due, "drops(" + i + ")", x -> x.drops(i), -1);
    }
    asIs(due, "again(1): nothing kept", x -> oneIf(x.again(1)), 0);
    asIs(due, "cause(3, 2)", x -> x.cause(3, 2), -1);
    asIs(due, "cause(4, 0)", x -> x.cause(4, 0), -1);
    asIs(due, "value(6)", x -> x.value(6), -1);
    asIs(due, "value(-1)", x -> x.value(-1), -1);
    asIs(due, "faulty(24, 0)", x -> x.faulty(24, 0), -1);
    asIs(due, "faulty(0, 6)", x -> x.faulty(0, 6), -1);
    asIs(due, "holds(0)", x -> x.holds(0), -1);
    asIs(due, "holds(6)", x -> x.holds(6), -1);
    asIs(due, "when(24)", x -> x.when(24), -1);
    asIs(due, "sample(9, 0)", x -> x.sample(9, 0), -1);
    asIs(due, "sample(0, 0)", x -> x.sample(0, 0), -1);
    asIs(due, "sample(8, 8)", x -> x.sample(8, 8), -1);
    asIs(due, "critical(0)", x -> x.critical(0), -1);
    asIs(due, "critical(6)", x -> x.critical(6), -1);
    asIs(due, "classOf(24)", x -> x.classOf(24), -1);
    asIs(due, "tests(24)", x -> x.tests(24), -1);
    asIs(due, "drawn(1, 0)", x -> x.drawn(1, 0), -1);
    asIs(due, "drawn(1, 25)", x -> x.drawn(1, 25), -1);
    asIs(due, "count(13)", x -> x.count(13), -1);
    asIs(due, "line(6, 0)", x -> thrown(() -> x.line(6, 0)), Due.THROWS);
    asIs(due, "line(0, 6)", x -> thrown(() -> x.line(0, 6)), Due.THROWS);
    asIs(due, "pin(6)", x -> thrown(() -> x.pin(6)), Due.THROWS);
    asIs(due, "row(2)", x -> thrown(() -> x.row(2)), Due.THROWS);
    // sign, with 77 signs told
    FaultLists x = full();
    Due.is("sign", x.sign(0x30303030), -1);
    Due.is("all is as it was", Picture.of(x).equals(Picture.of(full())), true);
  }

  private static FaultLists full() {
    FaultLists x = States.busy();
    Due.text(x, "0".repeat(77));
    return x;
  }

  private static void refusedTexts() {
    Due.terms("but THE TEXT, which a call that reads it empties.");
    FaultLists empty = States.busy();
    Due.is("end(0)", empty.end(0), true);
    String due = Picture.of(empty);
    Ask[] reads = {x -> x.applies(), x -> x.would(), x -> x.blames()};
    String[] names = {"applies()", "would()", "blames()"};
    String[] texts = {"x", "1x", "01ux", "1", "011", "uuuuuuu", "u".repeat(79)};
    int[] answers = {-1, -2, -4, -2, -4, -8, -80};
    for (int i = 0; i < reads.length; i++) {
      for (int t = 0; t < texts.length; t++) {
        // two TICKS by two OUTPUTS: the fifth sign is of a TICK that there was not
        int answer = i == 2 ? Math.max(-5, answers[t]) : answers[t];
        asText(due, names[i], reads[i], texts[t], answer);
      }
    }
    asText(due, "applies()", reads[0], "01".repeat(23), -200);
    asText(due, "would()", reads[1], "01".repeat(23), -200);
    asText(due, "blames()", reads[2], "01".repeat(3), -5);
    // what is refused by net() is the chain of the latest one: the same as the one before
    asText(due, "net()", x -> x.net(), "2;!c", -4);
  }

  private static void asText(String due, String call, Ask ask, String text, int answer) {
    FaultLists x = States.busy();
    Due.text(x, text);
    Due.is(call + " of " + text, ask.of(x), answer);
    Due.is("count(12)", x.count(12), 0);
    Due.is("all but THE TEXT is as it was behind " + call + " of " + text, Picture.of(x).equals(due), true);
  }

  private static void noneFirst() {
    Due.terms("NONE comes ahead of other answers below 0;");
    // no TICK, nothing DETECTED, so that -2 would be due else
    FaultLists x = Due.withNet("2;&ab:cb", 10);
    Due.is("value(3)", x.value(3), -1);
    Due.is("faulty(10, 0)", x.faulty(10, 0), -1);
    Due.is("faulty(0, 3)", x.faulty(0, 3), -1);
    Due.is("when(10)", x.when(10), -1);
    Due.is("critical(0)", x.critical(0), -1);
    Due.is("critical(3)", x.critical(3), -1);
    Due.is("tests(10)", x.tests(10), -1);
    Due.is("drops(2)", x.drops(2), -1);
    Due.is("drops(-1)", x.drops(-1), -1);
    Due.is("sample(9, 8)", x.sample(9, 8), -1);
    FaultLists least = new FaultLists();
    Due.is("sample(3, 3): there is no FAULT 3 either", least.sample(3, 3), -1);
    Due.is("sample(9, 3)", least.sample(9, 3), -1);
    Due.text(least, "x" + "0".repeat(30));
    Due.is("applies(): 31 TICKS, too", least.applies(), -1);
    Due.text(least, "x" + "0".repeat(30));
    Due.is("would(): 31 TICKS, too", least.would(), -1);
    Due.text(least, ";#d:a");
    Due.is("net(): a REGISTER's PIN, too", least.net(), -1);
  }

  private static void rowStays() {
    Due.terms("the ROW stays with each answer below 0.");
    FaultLists x = Due.withNet("1;#b:ba", 6);
    Due.is("hidden()", x.hidden(), 4);
    long[] row = {60, 3, 1};
    Due.row(x, row);
    Ask[] below = {y -> y.value(0), y -> y.faulty(0, 0), y -> y.critical(0), y -> y.when(0), y -> y.drops(0), y -> y.sample(7, 6),
        y -> y.tests(3), y -> y.parts(), y -> y.value(9), y -> y.faulty(9, 9), y -> y.critical(9), y -> y.when(9), y -> y.drops(9),
        y -> y.sample(9, 9), y -> y.tests(9), y -> y.classOf(9), y -> y.drawn(9, 0), y -> y.holds(0), y -> y.count(99),
        y -> y.cause(9, 9)};
    int[] due = {-2, -2, -2, -2, -2, -2, -2, -2, -1, -1, -1, -1, -1, -1, -1, -1, -1, -1, -1, -1};
    for (int i = 0; i < below.length; i++) {
      Due.is("call " + i, below[i].of(x), due[i]);
      Due.row(x, row);
    }
    Ask[] reads = {y -> y.net(), y -> y.applies(), y -> y.would(), y -> y.blames()};
    for (int i = 0; i < reads.length; i++) {
      Due.text(x, "0x");
      Due.is("reader " + i, reads[i].of(x), i == 0 || i == 3 ? -1 : -2);
      Due.row(x, row);
    }
    for (int i = 1; i <= 2; i++) {
      Due.text(x, "0".repeat(25));
      Due.is("reader " + i, reads[i].of(x), -200);
      Due.row(x, row);
    }
    Due.text(x, "1;#c:a");
    Due.is("net()", x.net(), -200);
    Due.row(x, row);
  }

  private static void keep() {
    Due.of(28, "THE NET, THE RUN, DROPPING, THE SUSPECTS are kept under a number 0 .. 1: true.");
    // of ten TICKS the registers, the ROW and THE TEXT being other ones when it comes back
    FaultLists x = States.busy();
    Due.is("keep(1)", x.keep(1), true);
    Due.text(x, "4:abcd");
    Due.is("net()", x.net(), 8);
    Due.text(x, "01110000");
    Due.is("applies()", x.applies(), 7);
    Due.text(x, "2;!c");
    Due.is("net()", x.net(), -4);
    Due.is("again(1)", x.again(1), true);
    Due.text(x, "01u");
    FaultLists y = States.busy();
    Due.is("keep(1)", y.keep(1), true);
    Due.is("all is as it was", Picture.withoutRow(x).equals(Picture.withoutRow(y)), true);
    // at the most: 64 FAULTS, 24 TICKS
    FaultLists most = Due.withNet(ODD, 64);
    Due.is("drops(1)", most.drops(1), 0);
    Due.text(most, "1000010000100001");
    Due.is("applies()", most.applies(), 64);
    Due.text(most, "0000".repeat(20));
    Due.is("applies()", most.applies(), 0);
    Due.text(most, "");
    Due.is("blames()", most.blames(), 64);
    for (int i = 0; i < 2; i++) Due.is("keep(" + i + ")", most.keep(i), true);
    Due.text(most, "1:a");
    Due.is("net()", most.net(), 2);
    for (int i = 0; i < 2; i++) {
      Due.is("again(" + i + ")", most.again(i), true);
      int[] due = {12, 4, 0, 20, 4, 64, 24, 64, 1, 64, 0};
      for (int what = 0; what < due.length; what++) Due.is("count(" + what + ")", most.count(what), due[what]);
      Due.is("detected()", most.detected(), 64);
      Due.row(most, -1L, -1L);
      Due.is("when(62)", most.when(62), 1);
      Due.text(most, "0000");
      Due.is("applies()", most.applies(), -200);
      Due.is("begins()", most.begins(), 24);
    }
  }

  private static void keepNone() {
    Due.of(28, "Refused: others.");
    FaultLists x = new FaultLists();
    for (int i : Due.outside(2)) Due.is("keep(" + i + ")", x.keep(i), false);
    Due.is("again(0): nothing was kept", x.again(0), false);
    Due.is("again(1): nothing was kept", x.again(1), false);
    Due.is("keep(0)", x.keep(0), true);
    Due.is("keep(1)", x.keep(1), true);
    Due.text(x, AND);
    Due.is("net()", x.net(), 10);
    for (int i : Due.outside(2)) Due.is("keep(" + i + ")", x.keep(i), false);
    for (int i = 0; i < 2; i++) {
      Due.is("again(" + i + ")", x.again(i), true);
      Due.is("count(5): what was kept stays", x.count(5), 2);
    }
  }

  private static void again() {
    Due.of(29, "They are as they were kept under a number.");
    FaultLists x = new FaultLists();
    Due.is("keep(0)", x.keep(0), true);
    Due.text(x, AND);
    Due.is("net()", x.net(), 10);
    Due.is("keep(1)", x.keep(1), true);
    Due.is("again(0)", x.again(0), true);
    Due.is("count(5)", x.count(5), 2);
    Due.is("again(1)", x.again(1), true);
    Due.is("count(5)", x.count(5), 10);
    // kept once more, it is the later one; what is done behind it does not reach it
    Due.applies(x, "11", 5, 341);
    Due.is("keep(0)", x.keep(0), true);
    Due.applies(x, "01", 3, 162);
    Due.is("again(0)", x.again(0), true);
    Due.is("count(6)", x.count(6), 1);
    Due.is("value(2)", x.value(2), 1);
    Due.applies(x, "01", 3, 162);
    Due.is("again(1)", x.again(1), true);
    Due.is("count(6): no TICK", x.count(6), 0);
    Due.is("value(2)", x.value(2), -2);
    Due.is("again(0)", x.again(0), true);
    Due.is("again(0)", x.again(0), true);
    Due.is("count(6)", x.count(6), 1);
    // the TICK and the OUTPUTS at which a FAULT was DETECTED
    FaultLists y = Due.withNet("1;=a:ab", 6);
    Due.applies(y, "uu1", 3, Due.bits(0, 2, 4));
    Due.is("keep(1)", y.keep(1), true);
    Due.is("begins()", y.begins(), 3);
    Due.applies(y, "01", 6, 63);
    Due.is("when(0)", y.when(0), 1);
    Due.is("again(1)", y.again(1), true);
    Due.is("when(0)", y.when(0), 2);
    Due.row(y, 3);
    Due.is("when(2)", y.when(2), 2);
    Due.row(y, 2);
    Due.is("when(1)", y.when(1), -2);
  }

  private static void againNone() {
    Due.of(29, "Refused: nothing kept.");
    FaultLists x = Due.withNet(AND, 10);
    for (int i = 0; i < 2; i++) Due.is("again(" + i + ")", x.again(i), false);
    for (int i : Due.outside(2)) Due.is("again(" + i + ")", x.again(i), false);
    Due.is("keep(1)", x.keep(1), true);
    Due.is("again(0)", x.again(0), false);
    for (int i : Due.outside(2)) Due.is("again(" + i + ")", x.again(i), false);
    Due.is("count(5)", x.count(5), 10);
    FaultLists y = new FaultLists();
    Due.is("keep(0)", y.keep(0), true);
    Due.is("again(1)", y.again(1), false);
    Due.is("again(0)", y.again(0), true);
  }

  private static void count() {
    Due.of(30, "What 0: LINES, 1: INPUTS, 2: REGISTERS, 3: PINS, 4: OUTPUTS, 5: FAULTS, 6: TICKS of THE RUN, 7: FAULTS that are DETECTED, 8: 1 if DROPPING is on, else 0, 9: THE SUSPECTS, 10: the lengths of all LISTS at the latest TICK, added up (0 without one), 11: numbers of the ROW, 12: signs of THE TEXT.");
    FaultLists x = Due.withNet("3;&ab;#d;|cde;#f1;=g:gfa", 32);
    int[] fresh = {8, 3, 2, 8, 3, 32, 0, 0, 0, 0, 0, 0, 0};
    for (int i = 0; i < fresh.length; i++) Due.is("count(" + i + ")", x.count(i), fresh[i]);
    // by 110: d is 1, e is not known, f is 1, g is 1, h is 1; LISTS of a 1, b 1, c 1; d, f, g, h are to be told
    Due.is("drops(1)", x.drops(1), 0);
    Due.text(x, "110");
    Due.is("applies()", x.applies(), 3);
    Due.row(x, Due.bits(0, 10, 12));
    // of d: a, b, d at 0, both its PINS; of f: itself; of g: itself; of h: g, itself and its PIN
    Due.is("count(10)", x.count(10), 3 + 5 + 1 + 1 + 3);
    Due.text(x, "111");
    Due.is("blames()", x.blames(), 29);
    Due.text(x, "0");
    int[] due = {8, 3, 2, 8, 3, 32, 1, 3, 1, 29, 13, 2, 1};
    for (int i = 0; i < due.length; i++) Due.is("count(" + i + ")", x.count(i), due[i]);
    Due.is("begins()", x.begins(), 1);
    int[] anew = {8, 3, 2, 8, 3, 32, 0, 0, 1, 0, 0, 2, 1};
    for (int i = 0; i < anew.length; i++) Due.is("count(" + i + ")", x.count(i), anew[i]);
  }

  private static void countMost() {
    Due.of(30, "What 0: LINES, 1: INPUTS, 2: REGISTERS, 3: PINS, 4: OUTPUTS, 5: FAULTS");
    FaultLists x = Due.withNet(ODD, 64);
    Due.text(x, "0000".repeat(20));
    x.applies();
    Due.is("count(10)", x.count(10), 84);
    Due.text(x, "1000010000100001");
    x.applies();
    Due.text(x, "");
    x.blames();
    for (int i = 1; i <= 20; i++) x.sign(0);
    int[] due = {12, 4, 0, 20, 4, 64, 24, 64, 0, 64};
    for (int i = 0; i < due.length; i++) Due.is("count(" + i + ")", x.count(i), due[i]);
    Due.is("count(12)", x.count(12), 80);
    FaultLists six = Due.withNet("1;#e0;#f1;#h0;!b;^bc;&bc;^dg;&bcd:i", 44);
    Due.is("tests(16)", six.tests(16), 6);
    Due.is("count(2)", six.count(2), 3);
    Due.is("count(11)", six.count(11), 6);
  }

  private static void countNone() {
    Due.of(30, "NONE for another what.");
    FaultLists x = States.busy();
    for (int what : Due.outside(13)) Due.is("count(" + what + ")", x.count(what), -1);
    for (int what = 0; what < 13; what++) Due.is("count(" + what + ") is none below 0", x.count(what) >= 0, true);
    FaultLists y = new FaultLists();
    for (int what : Due.outside(13)) Due.is("count(" + what + ")", y.count(what), -1);
  }

  private static void row() {
    Due.of(31, "Number i of the ROW.");
    FaultLists x = Due.withNet(ODD, 64);
    Due.is("hidden()", x.hidden(), 0);
    Due.is("row(0)", x.row(0), 0);
    Due.is("row(1)", x.row(1), -1);
    Due.is("row(2)", x.row(2), 1);
    Due.is("drawn(1, 24)", x.drawn(1, 24) > 0, true);
    Due.is("count(11)", x.count(11), 2);
    // how many numbers each call tells
    FaultLists y = States.busy();
    Ask[] asks = {z -> z.value(2), z -> z.holds(3), z -> z.detected(), z -> z.when(11), z -> z.sample(1, 0), z -> z.critical(4),
        z -> z.classes(), z -> z.classOf(1), z -> z.hidden(), z -> z.needless(), z -> z.shorter(), z -> z.parts(),
        z -> z.drawn(0, 1), z -> z.would()};
    int[] numbers = {2, 1, 2, 1, 2, 1, 1, 1, 3, 1, 1, 1, 2, 1};
    Due.is("end(2)", y.end(2), true);
    for (int i = 0; i < asks.length; i++) {
      Due.is("call " + i + " is no refused one", asks[i].of(y) >= 0, true);
      Due.is("count(11) behind call " + i, y.count(11), numbers[i]);
    }
    Due.text(y, "");
    Due.is("applies()", y.applies(), 0);
    Due.row(y, 0);
    Due.is("blames()", y.blames(), 24);
    Due.row(y, (1 << 24) - 1, 1);
  }

  private static void rowNone() {
    Due.of(31, "NoSuchElementException: none such.");
    FaultLists x = new FaultLists();
    Due.thrown("row(0)", () -> x.row(0));
    for (int i : Due.outside(1)) Due.thrown("row(" + i + ")", () -> x.row(i));
    Due.is("hidden()", x.hidden(), 0);
    for (int i : Due.outside(3)) Due.thrown("row(" + i + ")", () -> x.row(i));
    Due.is("classes()", x.classes(), 2);
    // of three numbers there is one left
    for (int i : Due.outside(1)) Due.thrown("row(" + i + ")", () -> x.row(i));
    FaultLists six = Due.withNet("1;#e0;#f1;#h0;!b;^bc;&bc;^dg;&bcd:i", 44);
    Due.is("tests(16)", six.tests(16), 6);
    Due.is("row(5)", six.row(5), 0);
    for (int i : Due.outside(6)) Due.thrown("row(" + i + ")", () -> six.row(i));
  }
}
