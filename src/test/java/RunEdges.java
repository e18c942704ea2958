/** The edges that the document names of FAULTS, TICKS and THE RUN: Terms, and promises 8 to 17. */
final class RunEdges {
  private static final String AND = "2;&ab:c";
  private static final String HELD = "1;#a0:b";
  /**
   * 64 FAULTS, all GATES ^: e .. h of two INPUTS each, i .. l of three of e .. h, so that i is a ^ d,
   * j a ^ b, k b ^ c, l c ^ d. What is turned over anywhere turns an OUTPUT over.
   */
  private static final String ODD = "4;^ab;^bc;^cd;^da;^efg;^fgh;^ghe;^hef:ijkl";
  private static final long ALL_AT_1 = 0xAAAAAAAAAAAAAAAAL;
  /** By 1000 a, e, h, i, j are 1, and the PINS 0, 7, 8, 13, 15, 16, 17, 18: those are seen at 0. */
  private static final long AT_0_BY_1000 = Due.bits(0, 8, 14, 16, 18, 24, 38, 40, 50, 54, 56, 58, 60);

  private RunEdges() {}

  static void all() {
    faults();
    ticks();
    shows();
    dropping();
    lists();
    applies();
    appliesSigns();
    appliesTooMany();
    would();
    begins();
    drops();
    dropsNone();
    value();
    faulty();
    holds();
    detected();
    when();
    sample();
    sampleNone();
  }

  private static void apply(FaultLists x, String patterns) {
    Due.text(x, patterns);
    Due.is("applies() of " + patterns + " is taken", x.applies() >= 0, true);
  }

  private static void faults() {
    Due.terms("FAULTS: LINE k STUCK at v: 2 k + v: it has VALUE v, whatever it should have, for all that read it, and as an OUTPUT.");
    FaultLists x = Due.withNet(ODD, 64);
    apply(x, "0000");
    for (int k = 0; k < 12; k++) {
      Due.is("faulty(2 k, k) of " + k, x.faulty(2 * k, k), 0);
      Due.is("faulty(2 k + 1, k) of " + k, x.faulty(2 * k + 1, k), 1);
    }
    // b is 1 for both that read it, and the OUTPUT j that is a ^ b
    Due.is("faulty(3, 4)", x.faulty(3, 4), 1);
    Due.is("faulty(3, 5)", x.faulty(3, 5), 1);
    Due.is("faulty(3, 8)", x.faulty(3, 8), 0);
    Due.is("faulty(3, 9)", x.faulty(3, 9), 1);
    // a REGISTER that is not known, stuck
    FaultLists y = Due.withNet("1;#b;!b:bc", 10);
    apply(y, "0");
    Due.is("faulty(2, 2)", y.faulty(2, 2), 1);
    Due.is("faulty(3, 1)", y.faulty(3, 1), 1);
    Due.terms("PIN p STUCK at v: 2 (LINES + p) + v: it reads v.");
    // the last PIN alone is FAULTS 62, 63; its LINE f, and what else reads it, is as it should be
    Due.is("faulty(63, 11)", x.faulty(63, 11), 1);
    Due.is("faulty(62, 11)", x.faulty(62, 11), 0);
    Due.is("faulty(63, 5)", x.faulty(63, 5), 0);
    Due.is("faulty(63, 8)", x.faulty(63, 8), 0);
    // the first one, of e, is FAULTS 24, 25
    Due.is("faulty(25, 4)", x.faulty(25, 4), 1);
    Due.is("faulty(25, 7): the other PIN that reads a", x.faulty(25, 7), 0);
    Due.is("faulty(24, 4)", x.faulty(24, 4), 0);
  }

  private static void ticks() {
    Due.terms("A TICK, by a PATTERN (VALUES of INPUTS), without any FAULT (the GOOD one), and by each FAULT alone: REGISTERS have the VALUES that they hold (at first START), GATES have theirs, one behind another; then each REGISTER holds what its PIN reads.");
    // a ring of three: all hold at once what was held ahead of it
    FaultLists x = Due.withNet("1;#d0;#b1;#c:bcd", 14);
    int[][] held = {{0, 1, 2}, {2, 0, 1}, {1, 2, 0}, {0, 1, 2}};
    for (int t = 0; t < 4; t++) {
      for (int k = 1; k <= 3; k++) Due.is("holds(" + k + ") behind " + t, x.holds(k), held[t][k - 1]);
      apply(x, "0");
      for (int k = 1; k <= 3; k++) Due.is("value(" + k + ") at " + t, x.value(k), held[t][k - 1]);
    }
    // what is stuck for those that read it is not stuck in what it holds: b at 1 holds 0 by a 0
    FaultLists y = Due.withNet(HELD, 6);
    apply(y, "0");
    Due.is("faulty(3, 1)", y.faulty(3, 1), 1);
    Due.is("holds(1)", y.holds(1), 0);
    Due.row(y, Due.bits(1, 5));
    // a REGISTER that reads itself, stuck: it holds what it read
    FaultLists z = Due.withNet("1;#b0:b", 6);
    apply(z, "0");
    Due.is("holds(1)", z.holds(1), 0);
    Due.row(z, Due.bits(3, 5));
  }

  private static void shows() {
    Due.terms("A FAULT SHOWS at a TICK, if an OUTPUT is 0 or 1 by the GOOD one and the other one by it.");
    // not known by the one or by the other is no showing
    FaultLists x = Due.withNet(AND, 10);
    Due.applies(x, "u1", 0, 0);
    Due.applies(x, "uu", 0, 0);
    Due.applies(x, "u0", 1, 32);
    FaultLists y = Due.withNet("1;#a0;#b:c", 10);
    // c is 2, then what b was: by b at 1, and c at 1, and the PIN of c
    Due.applies(y, "1", 0, 0);
    Due.applies(y, "1", 3, Due.bits(3, 5, 9));
    Due.terms("THE RUN: PATTERNS one behind another from START on (at most 24 TICKS), numbered 0, 1, ..;");
    FaultLists z = new FaultLists();
    apply(z, "u".repeat(22) + "01");
    Due.is("count(6)", z.count(6), 24);
    Due.is("when(1)", z.when(1), 22);
    Due.is("when(0)", z.when(0), 23);
    Due.text(z, "0");
    Due.is("applies(): 25 TICKS", z.applies(), -200);
    Due.terms("a FAULT is DETECTED, if it SHOWS at a TICK of it.");
    FaultLists w = new FaultLists();
    apply(w, "0uuu");
    Due.is("detected(): it showed once", w.detected(), 1);
    Due.row(w, 2, 0);
  }

  private static void dropping() {
    Due.terms("DROPPING (at first not): a FAULT that SHOWS at a TICK while that is on is DROPPED: from the end of that TICK on it is as the GOOD one.");
    FaultLists x = Due.withNet("1;#a0:ab", 6);
    Due.is("drops(0): at first not", x.drops(0), -2);
    Due.is("drops(1)", x.drops(1), 0);
    Due.applies(x, "1", 2, Due.bits(0, 3));
    // at that TICK it still is itself, at its end it holds what the GOOD one holds
    Due.is("faulty(0, 0)", x.faulty(0, 0), 0);
    Due.is("holds(1)", x.holds(1), 1);
    Due.row(x, Due.bits(4));
    Due.applies(x, "1", 2, Due.bits(2, 4));
    Due.is("faulty(0, 0)", x.faulty(0, 0), 1);
    Due.is("faulty(0, 1)", x.faulty(0, 1), 1);
    // off again: what was DROPPED stays so, what shows now is not
    Due.is("drops(0)", x.drops(0), 4);
    Due.applies(x, "0", 1, Due.bits(1));
    Due.is("detected()", x.detected(), 5);
    Due.row(x, Due.bits(0, 1, 2, 3, 4), Due.bits(0, 2, 3, 4));
    // DETECTED while it was off, it is DROPPED when it shows while it is on
    Due.is("drops(1)", x.drops(1), 4);
    Due.applies(x, "0", 1, Due.bits(5));
    Due.is("detected()", x.detected(), 6);
    Due.row(x, 63, 63);
    Due.applies(x, "10", 0, 0);
    Due.is("count(10): all are as the GOOD one", x.count(10), 0);
  }

  private static void lists() {
    Due.terms("LIST of a LINE: FAULTS, not DROPPED ahead of the latest TICK, by which it has another VALUE there than by the GOOD one, both 0 or 1;");
    FaultLists x = Due.withNet(ODD, 64);
    Due.is("drops(1)", x.drops(1), 0);
    Due.applies(x, "0000", 32, ALL_AT_1);
    Due.is("value(11)", x.value(11), 0);
    Due.row(x, Due.bits(5, 7, 9, 11, 15, 23, 25, 27, 29, 31, 37, 39, 59, 61, 63), 0);
    Due.is("value(0)", x.value(0), 0);
    Due.row(x, 2, 0);
    // those are DROPPED ahead of the next TICK
    Due.applies(x, "0000", 0, 0);
    Due.is("value(11)", x.value(11), 0);
    Due.row(x, 0, 0);
    Due.applies(x, "uuuu", 0, 0);
    Due.is("value(11)", x.value(11), 2);
    Due.row(x, 0, Due.bits(22));
    Due.terms("DOUBTS: those by which one of the two is 2, the other not.");
    FaultLists y = Due.withNet("4;&abc;&abc;&abc;&abc;&ab;&ab;&ab;|ab:lkji", 64);
    apply(y, "0u00");
    Due.is("value(11)", y.value(11), 2);
    Due.row(y, 0, Due.bits(1, 2, 3, 22, 23, 61, 62, 63));
    // the other way round: the GOOD one is known, by the FAULT it is not
    apply(y, "u100");
    Due.is("value(11)", y.value(11), 1);
    Due.row(y, Due.bits(22), Due.bits(2, 62));
  }

  private static void applies() {
    Due.of(8, "THE TEXT is PATTERNS, one behind another, of as many signs 0, 1, u (2) as there are INPUTS (an empty one: none): the TICKS are done: how many FAULTS are DETECTED that were not; the ROW: they.");
    FaultLists x = Due.withNet(ODD, 64);
    Due.applies(x, "", 0, 0);
    Due.is("count(6)", x.count(6), 0);
    Due.is("value(0): no TICK yet", x.value(0), -2);
    Due.applies(x, "0000", 32, ALL_AT_1);
    Due.applies(x, "0000", 0, 0);
    Due.applies(x, "1000", 13, AT_0_BY_1000);
    Due.applies(x, "010000100001", 19, 0x5555555555555555L & ~AT_0_BY_1000);
    Due.is("count(6)", x.count(6), 6);
    Due.is("detected()", x.detected(), 64);
    Due.row(x, -1L, 0);
    Due.applies(x, "", 0, 0);
    Due.is("count(6)", x.count(6), 6);
    // 80 signs by 4 INPUTS
    FaultLists y = Due.withNet("4:abcd", 8);
    Due.applies(y, "0u1u".repeat(20), 2, Due.bits(1, 4));
    Due.is("count(6)", y.count(6), 20);
  }

  private static void appliesSigns() {
    Due.of(8, "-1 - p: the sign at p can't stand there (its end, if it ends within a PATTERN);");
    int[] signs = {0, '/', '2', 'U', 'v', 'a', ' ', 128 + '0', 255};
    for (int i = 0; i < signs.length; i++) {
      FaultLists x = Due.withNet(AND, 10);
      Due.applies(x, "11", 5, 341);
      for (int p = 0; p < 6; p++) {
        Due.text(x, "01u10u".substring(0, p) + (char) signs[i] + "01u10u".substring(p + 1));
        Due.is("applies() with the sign " + signs[i] + " at " + p, x.applies(), -1 - p);
        Due.is("count(12)", x.count(12), 0);
        Due.is("count(6)", x.count(6), 1);
        Due.row(x, 341);
      }
    }
    for (int inputs = 1; inputs <= 4; inputs++) {
      FaultLists x = Due.withNet(inputs + ":a", 2 * inputs);
      for (int n = 0; n <= 2 * inputs; n++) {
        Due.text(x, "00000000".substring(0, n));
        Due.is("would() of " + n + " signs by " + inputs, x.would(), n == 0 ? 0 : n % inputs == 0 ? 1 : -1 - n);
        Due.text(x, "00000000".substring(0, n));
        if (n % inputs != 0) Due.is("applies() of " + n + " signs by " + inputs, x.applies(), -1 - n);
        Due.is("count(6)", x.count(6), 0);
      }
    }
    FaultLists three = Due.withNet("3:a", 6);
    Due.text(three, "0".repeat(80));
    Due.is("applies() of 80 signs by 3", three.applies(), -81);
    Due.text(three, "0".repeat(79) + "x");
    Due.is("applies(): the last sign of 80", three.applies(), -80);
  }

  private static void appliesTooMany() {
    Due.of(8, "-200: THE RUN would have more than 24 TICKS (nothing is done).");
    FaultLists x = new FaultLists();
    Due.text(x, "1".repeat(25));
    Due.is("applies() of 25", x.applies(), -200);
    Due.is("count(6)", x.count(6), 0);
    Due.is("count(12)", x.count(12), 0);
    Due.row(x);
    Due.text(x, "1".repeat(80));
    Due.is("applies() of 80", x.applies(), -200);
    Due.applies(x, "1".repeat(23), 1, 1);
    Due.text(x, "00");
    Due.is("applies() of 2 behind 23", x.applies(), -200);
    Due.row(x, 1);
    Due.is("detected()", x.detected(), 1);
    Due.applies(x, "0", 1, 2);
    Due.is("count(6)", x.count(6), 24);
    Due.text(x, "0");
    Due.is("applies() of 1 behind 24", x.applies(), -200);
    Due.applies(x, "", 0, 0);
    // a sign that can't stand there is told first, the end within a PATTERN, too
    Due.text(x, "0x");
    Due.is("applies()", x.applies(), -2);
    FaultLists y = Due.withNet(AND, 10);
    Due.text(y, "0".repeat(48));
    Due.is("applies() of 24 by 2 INPUTS", y.applies(), 1);
    Due.text(y, "000");
    Due.is("applies()", y.applies(), -4);
    Due.text(y, "00");
    Due.is("applies()", y.applies(), -200);
    // anew, there is room for 24
    Due.is("begins()", y.begins(), 24);
    Due.text(y, "0".repeat(48));
    Due.is("applies()", y.applies(), 1);
  }

  private static void would() {
    Due.of(9, "What applies() would tell (the ROW, too); nothing is done.");
    String[] told = {"", "00", "11", "0110", "1", "110", "2", "1x", "u0".repeat(22), "u0".repeat(23), "0".repeat(79), "0".repeat(80)};
    for (String text : told) {
      FaultLists x = States.busy();
      FaultLists y = States.busy();
      FaultLists z = States.busy();
      Due.text(x, text);
      Due.text(y, text);
      Due.is("end(0)", z.end(0), true);
      int due = x.applies();
      Due.is("would() of " + text, y.would(), due);
      Due.is("count(12)", y.count(12), 0);
      Due.is("count(11)", y.count(11), x.count(11));
      for (int i = 0; i < x.count(11); i++) Due.is("row(" + i + ") of " + text, y.row(i), x.row(i));
      Due.is("all is as it was behind " + text, Picture.withoutRow(y).equals(Picture.withoutRow(z)), true);
    }
    FaultLists full = new FaultLists();
    Due.applies(full, "1".repeat(24), 1, 1);
    Due.text(full, "0");
    Due.is("would() behind 24", full.would(), -200);
    Due.text(full, "");
    Due.is("would() of none behind 24", full.would(), 0);
    Due.row(full, 0);
    FaultLists odd = Due.withNet(ODD, 64);
    Due.text(odd, "0000");
    Due.is("would()", odd.would(), 32);
    Due.row(odd, ALL_AT_1);
  }

  private static void begins() {
    Due.of(10, "THE RUN begins anew (nothing is DETECTED, nothing DROPPED; DROPPING stays on or off): how many TICKS it had.");
    for (int on = 0; on <= 1; on++) {
      FaultLists x = Due.withNet(HELD, 6);
      Due.is("begins() of none", x.begins(), 0);
      if (on == 1) Due.is("drops(1)", x.drops(1), 0);
      Due.applies(x, "1".repeat(24), 4, 29);
      Due.is("begins()", x.begins(), 24);
      Due.is("begins()", x.begins(), 0);
      Due.is("count(6)", x.count(6), 0);
      Due.is("count(8)", x.count(8), on);
      Due.is("detected()", x.detected(), 0);
      Due.row(x, 0, 0);
      Due.is("holds(1)", x.holds(1), 0);
      Due.row(x, 0);
      Due.is("value(0)", x.value(0), -2);
      for (int f = 0; f < 6; f++) Due.is("when(" + f + ")", x.when(f), -2);
      // what was DROPPED shows anew
      Due.applies(x, "1".repeat(24), 4, 29);
    }
  }

  private static void drops() {
    Due.of(11, "DROPPING is on (is 1) or off (0): how many are DROPPED so far.");
    FaultLists x = Due.withNet(ODD, 64);
    Due.is("drops(1)", x.drops(1), 0);
    Due.is("count(8)", x.count(8), 1);
    Due.applies(x, "00001000010000100001", 64, -1L);
    Due.is("drops(0)", x.drops(0), 64);
    Due.is("count(8)", x.count(8), 0);
    Due.is("detected()", x.detected(), 64);
    Due.row(x, -1L, -1L);
    Due.is("drops(1)", x.drops(1), 64);
    Due.is("begins()", x.begins(), 5);
    Due.is("drops(0)", x.drops(0), 0);
  }

  private static void dropsNone() {
    Due.of(11, "-2: it is so;");
    FaultLists x = Due.withNet(AND, 10);
    Due.is("drops(0)", x.drops(0), -2);
    Due.is("drops(1)", x.drops(1), 0);
    Due.is("drops(1)", x.drops(1), -2);
    Due.is("count(8)", x.count(8), 1);
    Due.is("drops(0)", x.drops(0), 0);
    Due.is("drops(0)", x.drops(0), -2);
    Due.is("count(8)", x.count(8), 0);
    Due.of(11, "NONE: another is.");
    for (int is : Due.outside(2)) {
      Due.is("drops(" + is + ")", x.drops(is), -1);
      Due.is("count(8)", x.count(8), 0);
    }
    Due.is("drops(1)", x.drops(1), 0);
    for (int is : Due.outside(2)) Due.is("drops(" + is + ")", x.drops(is), -1);
    Due.is("count(8)", x.count(8), 1);
  }

  private static void value() {
    Due.of(12, "VALUE of a LINE by the GOOD one at the latest TICK; the ROW: its LIST, its DOUBTS.");
    FaultLists x = new FaultLists();
    apply(x, "0");
    Due.is("value(0)", x.value(0), 0);
    Due.row(x, 2, 0);
    apply(x, "1u");
    Due.is("value(0)", x.value(0), 2);
    Due.row(x, 0, 3);
    Due.of(12, "-2: there was no TICK;");
    FaultLists y = Due.withNet(ODD, 64);
    Due.is("value(0)", y.value(0), -2);
    Due.is("value(11)", y.value(11), -2);
    apply(y, "0000");
    Due.is("value(11)", y.value(11), 0);
    y.begins();
    Due.is("value(11)", y.value(11), -2);
    Due.of(12, "NONE: none such.");
    for (int k : Due.outside(12)) Due.is("value(" + k + ")", y.value(k), -1);
    apply(y, "0000");
    for (int k : Due.outside(12)) Due.is("value(" + k + ")", y.value(k), -1);
    for (int k : Due.outside(1)) Due.is("value(" + k + ") of 1:a", x.value(k), -1);
    Due.row(x, 0, 3);
  }

  private static void faulty() {
    Due.of(13, "VALUE of a LINE by a FAULT at the latest TICK (of one that was DROPPED ahead of it: by the GOOD one).");
    FaultLists x = Due.withNet(ODD, 64);
    Due.is("drops(1)", x.drops(1), 0);
    apply(x, "0000");
    Due.is("faulty(1, 0)", x.faulty(1, 0), 1);
    Due.is("faulty(63, 11)", x.faulty(63, 11), 1);
    apply(x, "0000");
    Due.is("faulty(1, 0)", x.faulty(1, 0), 0);
    Due.is("faulty(63, 11)", x.faulty(63, 11), 0);
    apply(x, "u000");
    Due.is("faulty(1, 0)", x.faulty(1, 0), 2);
    Due.is("faulty(0, 0)", x.faulty(0, 0), 0);
    Due.of(13, "-2: there was no TICK;");
    x.begins();
    Due.is("faulty(0, 0)", x.faulty(0, 0), -2);
    Due.is("faulty(63, 11)", x.faulty(63, 11), -2);
    Due.of(13, "NONE: none such.");
    for (int f : Due.outside(64)) Due.is("faulty(" + f + ", 0)", x.faulty(f, 0), -1);
    for (int k : Due.outside(12)) Due.is("faulty(0, " + k + ")", x.faulty(0, k), -1);
    apply(x, "0000");
    for (int f : Due.outside(64)) Due.is("faulty(" + f + ", 11)", x.faulty(f, 11), -1);
    for (int k : Due.outside(12)) Due.is("faulty(63, " + k + ")", x.faulty(63, k), -1);
    FaultLists y = new FaultLists();
    apply(y, "0");
    for (int f : Due.outside(2)) Due.is("faulty(" + f + ", 0) of 1:a", y.faulty(f, 0), -1);
    for (int k : Due.outside(1)) Due.is("faulty(1, " + k + ") of 1:a", y.faulty(1, k), -1);
  }

  private static void holds() {
    Due.of(14, "What a REGISTER (a LINE) holds by the GOOD one; the ROW: FAULTS, not DROPPED, by which it holds another VALUE (2, too).");
    // before the first TICK it is START, by all FAULTS
    FaultLists x = Due.withNet("1;#a0;#a1;#a:b", 14);
    for (int k = 1; k <= 3; k++) {
      Due.is("holds(" + k + ")", x.holds(k), k - 1);
      Due.row(x, 0);
    }
    apply(x, "u");
    for (int k = 1; k <= 3; k++) {
      Due.is("holds(" + k + ")", x.holds(k), 2);
      // a at 0, at 1, its own PIN at 0, at 1
      Due.row(x, Due.bits(0, 1, 6 + 2 * k, 7 + 2 * k));
    }
    // known by the GOOD one, not by a FAULT: b at 0 lets c be not known
    FaultLists y = Due.withNet("1;#a1;#c;|bc;#d:e", 20);
    Due.is("holds(4)", y.holds(4), 2);
    apply(y, "0");
    Due.is("holds(4)", y.holds(4), 1);
    // b at 0: d is 2; d at 0, the PIN that reads b at 0, the PIN of e at 0
    Due.row(y, Due.bits(2, 6, 14, 18));
    // LINE 11, PIN 19: FAULT 63; DROPPED ones are not told
    FaultLists z = Due.withNet("4;&abc;&abc;&abc;&abc;&abc;&abc;=a;#a:al", 64);
    z.drops(1);
    apply(z, "0000");
    Due.is("holds(11)", z.holds(11), 0);
    Due.row(z, Long.MIN_VALUE);
    Due.of(14, "NONE: no REGISTER.");
    for (int k = 0; k < 11; k++) Due.is("holds(" + k + ")", z.holds(k), -1);
    for (int k : Due.outside(12)) Due.is("holds(" + k + ")", z.holds(k), -1);
    FaultLists none = new FaultLists();
    Due.is("holds(0)", none.holds(0), -1);
    for (int k : Due.outside(1)) Due.is("holds(" + k + ")", none.holds(k), -1);
    // a net in which that LINE is a GATE, behind one in which it was a REGISTER
    FaultLists gone = Due.withNet(HELD, 6);
    Due.text(gone, "1;=a:b");
    Due.is("net()", gone.net(), 6);
    Due.is("holds(1)", gone.holds(1), -1);
  }

  private static void detected() {
    Due.of(15, "FAULTS that are DETECTED: how many; the ROW: they, those that are DROPPED.");
    FaultLists x = Due.withNet(ODD, 64);
    Due.is("detected(): none", x.detected(), 0);
    Due.row(x, 0, 0);
    apply(x, "1000010000100001");
    Due.is("detected()", x.detected(), 64);
    Due.row(x, -1L, 0);
    Due.is("drops(1)", x.drops(1), 0);
    apply(x, "0000");
    Due.is("detected()", x.detected(), 64);
    Due.row(x, -1L, ALL_AT_1);
    Due.is("drops(0)", x.drops(0), 32);
    Due.is("detected()", x.detected(), 64);
    Due.row(x, -1L, ALL_AT_1);
  }

  private static void when() {
    Due.of(16, "The TICK at which a FAULT was DETECTED; the ROW: OUTPUTS at which it SHOWED then (LINES, bits).");
    FaultLists x = Due.withNet(ODD, 64);
    apply(x, "00001000010000100001");
    Due.is("when(63)", x.when(63), 0);
    Due.row(x, 1 << 11);
    // the PIN that reads f: f is b ^ c, first 1 by 0100
    Due.is("when(62)", x.when(62), 2);
    Due.row(x, 1 << 11);
    Due.is("when(0)", x.when(0), 1);
    Due.row(x, Due.bits(8, 9));
    Due.is("when(1)", x.when(1), 0);
    Due.row(x, Due.bits(8, 9));
    Due.is("when(6): d at 0", x.when(6), 4);
    Due.row(x, Due.bits(8, 11));
    FaultLists last = Due.withNet("4:dcba", 8);
    apply(last, "uuuu".repeat(20));
    apply(last, "uuuuuuuuuuuu0101");
    Due.is("when(1)", last.when(1), 23);
    Due.row(last, 1);
    Due.is("when(6)", last.when(6), 23);
    Due.row(last, 8);
    Due.of(16, "-2: it is not;");
    Due.is("when(0)", last.when(0), -2);
    Due.is("when(7)", last.when(7), -2);
    FaultLists none = Due.withNet(ODD, 64);
    for (int f = 0; f < 64; f++) Due.is("when(" + f + ")", none.when(f), -2);
    Due.of(16, "NONE: none such.");
    for (int f : Due.outside(64)) Due.is("when(" + f + ")", x.when(f), -1);
    for (int f : Due.outside(8)) Due.is("when(" + f + ")", last.when(f), -1);
    FaultLists least = new FaultLists();
    apply(least, "01");
    for (int f : Due.outside(2)) Due.is("when(" + f + ") of 1:a", least.when(f), -1);
  }

  private static void sample() {
    Due.of(17, "DETECTED ones by all FAULTS whose number is r modulo k (k 1 .. 8, r 0 .. k - 1), as a fraction in least terms: 0; the ROW: above, below.");
    FaultLists x = Due.withNet(ODD, 64);
    Due.is("sample(1, 0)", x.sample(1, 0), 0);
    Due.row(x, 0, 1);
    Due.is("sample(8, 7)", x.sample(8, 7), 0);
    Due.row(x, 0, 1);
    apply(x, "0000");
    // the odd ones of 0 .. 63 are DETECTED: of 0, 3, .. 63 are 11 of 22, of 1, 4, .. 61 are 11 of 21, and so on
    int[][] due = {{1, 0, 1, 2}, {2, 0, 0, 1}, {2, 1, 1, 1}, {3, 0, 1, 2}, {3, 1, 11, 21}, {3, 2, 10, 21}, {4, 3, 1, 1},
        {5, 0, 6, 13}, {5, 3, 7, 13}, {5, 4, 1, 2}, {6, 5, 1, 1}, {7, 0, 1, 2}, {7, 1, 5, 9}, {7, 6, 4, 9}, {8, 0, 0, 1},
        {8, 7, 1, 1}};
    for (int[] d : due) {
      Due.is("sample(" + d[0] + ", " + d[1] + ")", x.sample(d[0], d[1]), 0);
      Due.row(x, d[2], d[3]);
    }
    FaultLists half = Due.withNet("2:ab", 4);
    apply(half, "01");
    Due.is("sample(1, 0): 2 of 4", half.sample(1, 0), 0);
    Due.row(half, 1, 2);
    apply(x, "1000010000100001");
    for (int k = 1; k <= 8; k++) {
      Due.is("sample(" + k + ", " + (k - 1) + ")", x.sample(k, k - 1), 0);
      Due.row(x, 1, 1);
    }
  }

  private static void sampleNone() {
    Due.of(17, "-2: there are no such FAULTS;");
    FaultLists x = new FaultLists();
    apply(x, "1");
    for (int k = 1; k <= 8; k++) {
      for (int r = 0; r < k; r++) {
        Due.is("sample(" + k + ", " + r + ") of 1:a", x.sample(k, r), r < 2 ? 0 : -2);
        if (k > 1) Due.row(x, r == 0 ? 1 : 0, 1);
      }
    }
    Due.of(17, "NONE: others.");
    FaultLists y = Due.withNet(ODD, 64);
    for (int k : Due.outside(9)) Due.is("sample(" + k + ", 0)", y.sample(k, 0), -1);
    Due.is("sample(0, 0)", y.sample(0, 0), -1);
    for (int k = 1; k <= 8; k++) {
      Due.is("sample(" + k + ", " + k + ")", y.sample(k, k), -1);
      Due.is("sample(" + k + ", -1)", y.sample(k, -1), -1);
    }
    for (int r : Due.outside(8)) Due.is("sample(8, " + r + ")", y.sample(8, r), -1);
    for (int r : Due.outside(1)) Due.is("sample(1, " + r + ")", y.sample(1, r), -1);
    for (int k : Due.outside(9)) Due.is("sample(" + k + ", " + k + ")", y.sample(k, k), -1);
    Due.row(y);
  }
}
