/** The edges that the document names of what is found out: promises 18 to 27. */
final class FindEdges {
  private static final String AND = "2;&ab:c";
  private static final String ODD = "4;^ab;^bc;^cd;^da;^efg;^fgh;^ghe;^hef:ijkl";
  /** A REGISTER that is never known is the OUTPUT: of 64 FAULTS none ever shows. */
  private static final String BLIND = "4;&abc;&abc;&abc;&abc;&abc;&abc;=a;#l:l";
  /** Three REGISTERS count; the OUTPUT i is 1 at 7 alone, to which it is six TICKS from 2, seven from 1. */
  private static final String SIX = "1;#e0;#f1;#h0;!b;^bc;&bc;^dg;&bcd:i";
  private static final String SEVEN = "1;#e1;#f0;#h0;!b;^bc;&bc;^dg;&bcd:i";

  private FindEdges() {}

  static void all() {
    critical();
    criticalNone();
    classes();
    classesByRules();
    classOf();
    tests();
    testsLong();
    testsAnew();
    testsTooLong();
    hidden();
    needless();
    shorter();
    blames();
    blamesSigns();
    parts();
    partsForgets();
    drawn();
    drawnNone();
  }

  private static void apply(FaultLists x, String patterns) {
    Due.text(x, patterns);
    Due.is("applies() of " + patterns + " is taken", x.applies() >= 0, true);
  }

  private static void critical() {
    Due.of(18, "LINES that are critical for an OUTPUT (a LINE) now: by the GOOD one's VALUES of INPUTS, REGISTERS of the latest TICK, were the LINE alone the other one of 0 and 1, the OUTPUT would be the other one, both being 0 or 1: they; the ROW: how many.");
    FaultLists x = Due.withNet(ODD, 64);
    apply(x, "0000");
    // l is c ^ d: a and b cancel, g, i, j, k do not lead to it
    Due.is("critical(11)", x.critical(11), Due.bits(2, 3, 4, 5, 7, 11));
    Due.row(x, 6);
    Due.is("critical(8)", x.critical(8), Due.bits(0, 3, 4, 5, 6, 8));
    Due.row(x, 6);
    // nothing is, where the OUTPUT is not known; a LINE that is not known has no other one
    apply(x, "00uu");
    Due.is("critical(11)", x.critical(11), 0);
    Due.row(x, 0);
    Due.is("critical(9): a ^ b by f ^ g ^ h", x.critical(9), 0);
    FaultLists y = Due.withNet("2;|ab:c", 10);
    apply(y, "1u");
    // a turned over lets c be not known
    Due.is("critical(2)", y.critical(2), 4);
    Due.row(y, 1);
    FaultLists z = new FaultLists();
    apply(z, "01");
    Due.is("critical(0): an OUTPUT is critical for itself", z.critical(0), 1);
    Due.row(z, 1);
    // what a REGISTER gave at that TICK, not what it holds behind it; DROPPED FAULTS change nothing
    FaultLists w = Due.withNet("1;#a0;&ab:c", 12);
    Due.is("drops(1)", w.drops(1), 0);
    apply(w, "1");
    Due.is("critical(2)", w.critical(2), Due.bits(1, 2));
    apply(w, "1");
    Due.is("critical(2)", w.critical(2), Due.bits(0, 1, 2));
    Due.row(w, 3);
    // a alone is critical, as b is 0; then either alone leaves c as it is
    FaultLists either = Due.withNet("1;#a0;|ab:c", 12);
    apply(either, "1");
    Due.is("critical(2)", either.critical(2), Due.bits(0, 2));
    apply(either, "1");
    Due.is("critical(2)", either.critical(2), Due.bits(2));
  }

  private static void criticalNone() {
    Due.of(18, "-2: there was no TICK;");
    FaultLists x = Due.withNet(ODD, 64);
    for (int k = 8; k < 12; k++) Due.is("critical(" + k + ")", x.critical(k), -2);
    apply(x, "0000");
    x.begins();
    Due.is("critical(8)", x.critical(8), -2);
    Due.of(18, "NONE: it is no OUTPUT.");
    for (int k = 0; k < 8; k++) Due.is("critical(" + k + ")", x.critical(k), -1);
    for (int k : Due.outside(12)) Due.is("critical(" + k + ")", x.critical(k), -1);
    apply(x, "0000");
    for (int k = 0; k < 8; k++) Due.is("critical(" + k + ")", x.critical(k), -1);
    for (int k : Due.outside(12)) Due.is("critical(" + k + ")", x.critical(k), -1);
    // fewer OUTPUTS than the net before had
    Due.text(x, "4:d");
    Due.is("net()", x.net(), 8);
    apply(x, "0000");
    for (int k = 0; k < 3; k++) Due.is("critical(" + k + ")", x.critical(k), -1);
    Due.is("critical(3)", x.critical(3), 8);
  }

  private static void classes() {
    Due.of(19, "into how many classes FAULTS part: how many; the ROW: the largest class (of equal ones that of the least FAULT).");
    FaultLists least = new FaultLists();
    Due.is("classes() of 1:a", least.classes(), 2);
    Due.row(least, 1);
    FaultLists all = Due.withNet(ODD, 64);
    // e .. h are read more than once: no rule holds at all
    Due.is("classes() of ODD", all.classes(), 64);
    Due.row(all, 1);
    // one class of four, with FAULT 63: l at 1 and its PINS at 1
    FaultLists one = Due.withNet("4;^abc;^abc;^abc;^ab;^ab;^ab;^ab;|abc:lkji", 64);
    Due.is("classes()", one.classes(), 61);
    Due.row(one, Due.bits(23, 59, 61, 63));
    // three classes of three FAULTS, whose least ones are 4, 7, 8
    FaultLists two = Due.withNet("2;&ab;|ab;&ab;^ab:cdea", 28);
    Due.is("classes()", two.classes(), 28 - 3 * 2);
    Due.row(two, Due.bits(4, 12, 14));
    // l at 0 and its PINS: 22, 38, 40; of each = its PIN
    FaultLists high = Due.withNet("4;=a;=a;=a;=a;=a;=a;=a;&aa:l", 42);
    Due.is("classes()", high.classes(), 42 - 7 * 2 - 2);
    Due.row(high, Due.bits(22, 38, 40));
    // on and on: five in a row, all alike
    FaultLists chain = Due.withNet("1;=a;!b;!c;=d;!e:f", 22);
    Due.is("classes()", chain.classes(), 2);
    Due.row(chain, Due.bits(0, 2, 5, 6, 8, 11, 12, 14, 17, 18, 20));
  }

  private static void like(String net, int faults, int fault, int... due) {
    FaultLists x = Due.withNet(net, faults);
    for (int f : due) {
      Due.is("classOf(" + f + ") of " + net, x.classOf(f), due.length);
      Due.row(x, Due.bits(due));
    }
    Due.is("the class is that of " + fault, Due.bits(due) >>> fault & 1, 1);
  }

  private static void classesByRules() {
    Due.of(19, "FAULTS that are alike, by rules: PIN and LINE of = stuck at v;");
    like("1;=a:ab", 6, 4, 2, 4);
    like("1;=a:ab", 6, 5, 3, 5);
    Due.of(19, "of ! PIN at v, LINE at the other;");
    like("1;!a:ab", 6, 4, 3, 4);
    like("1;!a:ab", 6, 5, 2, 5);
    Due.of(19, "of & PIN 0, LINE 0;");
    like("3;&abc:abcd", 14, 6, 6, 8, 10, 12);
    like("3;&abc:abcd", 14, 9, 9);
    like("3;&abc:abcd", 14, 7, 7);
    Due.of(19, "of n PIN 0, LINE 1;");
    like("3;nabc:abcd", 14, 7, 7, 8, 10, 12);
    like("3;nabc:abcd", 14, 6, 6);
    Due.of(19, "of | PIN 1, LINE 1;");
    like("3;|abc:abcd", 14, 7, 7, 9, 11, 13);
    like("3;|abc:abcd", 14, 6, 6);
    Due.of(19, "of r PIN 1, LINE 0;");
    like("3;rabc:abcd", 14, 6, 6, 9, 11, 13);
    like("3;rabc:abcd", 14, 7, 7);
    // of ^ and # there is no rule
    like("3;^abc:abcd", 14, 6, 6);
    like("1;#a:ab", 6, 4, 4);
    Due.of(19, "a LINE that just one PIN reads, and that is no OUTPUT, at v, and that PIN at v;");
    like("2;^ab:c", 10, 0, 0, 6);
    like("2;^ab:c", 10, 3, 3, 9);
    like("1;#a:b", 6, 1, 1, 5);
    like("1;#b:a", 6, 2, 2, 4);
    like("2;^ab:ca", 10, 0, 0);
    like("2;^aa:c", 10, 0, 0);
    like("2;^ab;^ab:d", 16, 0, 0);
    // read by none
    like("2;!a:c", 8, 2, 2);
    Due.of(19, "and on and on:");
    like("2;&ab;!c;|dd:e", 20, 0, 0, 2, 4, 7, 10, 12, 14);
  }

  private static void classOf() {
    Due.of(20, "FAULTS of the class of a FAULT: how many; the ROW: they.");
    FaultLists x = Due.withNet("4;&abc;&abc;&abc;&abc;&ab;&ab;&ab;&ab:lkji", 64);
    Due.is("classOf(63)", x.classOf(63), 1);
    Due.row(x, Long.MIN_VALUE);
    Due.is("classOf(62)", x.classOf(62), 3);
    Due.row(x, Due.bits(22, 60, 62));
    Due.is("classOf(0)", x.classOf(0), 1);
    Due.row(x, 1);
    Due.of(20, "NONE: none such.");
    for (int f : Due.outside(64)) Due.is("classOf(" + f + ")", x.classOf(f), -1);
    Due.row(x, 1);
    FaultLists y = new FaultLists();
    Due.is("classOf(1)", y.classOf(1), 1);
    for (int f : Due.outside(2)) Due.is("classOf(" + f + ")", y.classOf(f), -1);
    Due.row(y, 2);
  }

  private static void tests() {
    Due.of(21, "The fewest PATTERNS of 0 and 1, 1 .. 6, at the last of which a FAULT SHOWS, from START on: how many;");
    FaultLists x = new FaultLists();
    Due.is("tests(0)", x.tests(0), 1);
    Due.row(x, 1);
    Due.is("tests(1)", x.tests(1), 1);
    Due.row(x, 0);
    FaultLists six = Due.withNet(SIX, 44);
    Due.is("tests(16)", six.tests(16), 6);
    Due.row(six, 0, 0, 0, 0, 0, 0);
    // from START on, whatever THE RUN did, and whatever is DROPPED
    Due.is("drops(1)", six.drops(1), 0);
    apply(six, "000000");
    Due.is("when(16)", six.when(16), 5);
    Due.is("tests(16)", six.tests(16), 6);
    Due.row(six, 0, 0, 0, 0, 0, 0);
    Due.of(21, "the ROW: they, each as a number (the first INPUT the highest binary digit), of as few the least row.");
    FaultLists y = Due.withNet("4;!d;&abe:f", 20);
    Due.is("tests(10): f at 0", y.tests(10), 1);
    Due.row(y, 12);
    Due.is("tests(11): f at 1", y.tests(11), 1);
    Due.row(y, 0);
    Due.is("tests(1): a at 1", y.tests(1), 1);
    Due.row(y, 4);
    Due.is("tests(3): b at 1", y.tests(3), 1);
    Due.row(y, 8);
    Due.is("tests(7): d at 1", y.tests(7), 1);
    Due.row(y, 12);
    // a REGISTER of a and d: 9 first, then anything, the least: 0
    FaultLists z = Due.withNet("4;&ad;#e0:f", 18);
    Due.is("tests(0): a at 0", z.tests(0), 2);
    Due.row(z, 9, 0);
    FaultLists high = Due.withNet("4;&abc;&de:f", 22);
    Due.is("tests(10): f at 0", high.tests(10), 1);
    Due.row(high, 15);
  }

  private static void testsOf(String net, int fault, int... due) {
    FaultLists x = new FaultLists();
    Due.text(x, net);
    Due.is("net() of " + net, x.net() > fault, true);
    Due.is("tests(" + fault + ") of " + net, x.tests(fault), due.length);
    Due.is("count(11)", x.count(11), due.length);
    for (int i = 0; i < due.length && i < x.count(11); i++) Due.is("row(" + i + ")", x.row(i), due[i]);
  }

  private static void testsLong() {
    Due.of(21, "The fewest PATTERNS of 0 and 1, 1 .. 6, at the last of which a FAULT SHOWS, from START on");
    // a, not known at first, is seen three TICKS later
    testsOf("4;#a;#e;#f:g", 0, 8, 0, 0, 0);
    testsOf("4;#a;#e;#f:g", 1, 0, 0, 0, 0);
    testsOf("4;#a;#e;#f:g", 8, 8, 0, 0, 0);
    testsOf("2;#a;#c;&bd:e", 8, 2, 0, 1);
    testsOf("2;#a;#c;&bd:e", 7, 0, 0, 1);
    // g is 1 behind 1, 0, 1, 1 alone
    testsOf("1;#a0;#b0;#c0;!c;&abe;&df:g", 12, 1, 0, 1, 1);
    // a counter that a lets count: from 2 to 7, which is seen one TICK later
    testsOf("1;#e0;#g1;#i0;^ab;&ab;^cf;&cf;^dh;&bcd:j", 18, 1, 1, 1, 1, 1, 0);
    Due.of(21, "of as few the least row.");
    // b at 0 and 1 is seen where a lets it: the least first, then the least behind it
    testsOf("2;#b0;&ac:d", 6, 1, 2);
    testsOf("2;#b0;^ac:d", 5, 0);
    testsOf("2;#b0;^ac:d", 4, 1, 0);
  }

  /** The same question in another net: nothing is left of the one before. */
  private static void testsAnew() {
    Due.of(21, "from START on");
    FaultLists x = Due.withNet("1;#a0:b", 6);
    Due.is("tests(2): b at 0", x.tests(2), 2);
    Due.row(x, 1, 0);
    Due.is("keep(0)", x.keep(0), true);
    Due.text(x, "1;#a1:b");
    Due.is("net()", x.net(), 6);
    Due.is("tests(2): b at 0", x.tests(2), 1);
    Due.row(x, 0);
    Due.text(x, "1;#b0:b");
    Due.is("net()", x.net(), 6);
    Due.is("tests(2): b at 0", x.tests(2), -2);
    Due.is("hidden()", x.hidden(), 4);
    // b at 1 at once, its PIN at 1 a TICK later
    Due.row(x, Due.bits(0, 1, 2, 4), Due.bits(5), 2);
    Due.is("again(0)", x.again(0), true);
    Due.is("hidden()", x.hidden(), 0);
    Due.row(x, 0, Due.bits(0, 1, 2, 4, 5), 2);
  }

  private static void testsTooLong() {
    Due.of(21, "-2: 6 do not do;");
    FaultLists seven = Due.withNet(SEVEN, 44);
    Due.is("tests(17)", seven.tests(17), 1);
    Due.is("tests(16)", seven.tests(16), -2);
    Due.row(seven, 0);
    FaultLists count = Due.withNet("1;#e1;#g0;#i0;^ab;&ab;^cf;&cf;^dh;&bcd:j", 52);
    Due.is("tests(18): from 1 on", count.tests(18), -2);
    Due.row(count);
    // seven TICKS do
    apply(seven, "0000000");
    Due.is("when(16)", seven.when(16), 6);
    FaultLists blind = Due.withNet(BLIND, 64);
    for (int f = 0; f < 64; f++) Due.is("tests(" + f + ")", blind.tests(f), -2);
    Due.row(blind);
    Due.of(21, "NONE: none such.");
    for (int f : Due.outside(64)) Due.is("tests(" + f + ")", blind.tests(f), -1);
    FaultLists least = new FaultLists();
    for (int f : Due.outside(2)) Due.is("tests(" + f + ") of 1:a", least.tests(f), -1);
    Due.row(least);
  }

  private static void hidden() {
    Due.of(22, "FAULTS for which tests() is -2: how many; the ROW: they, those for which tests() is greatest (0 without any), that number (0 without any).");
    FaultLists none = Due.withNet(ODD, 64);
    Due.is("hidden()", none.hidden(), 0);
    Due.row(none, 0, -1L, 1);
    FaultLists all = Due.withNet(BLIND, 64);
    Due.is("hidden()", all.hidden(), 64);
    Due.row(all, -1L, 0, 0);
    FaultLists least = new FaultLists();
    Due.is("hidden()", least.hidden(), 0);
    Due.row(least, 0, 3, 1);
    // all but those of the OUTPUT
    FaultLists most = Due.withNet("4;&abc;&abc;&abc;&abc;&ab;&ab;&ab;&ab:d", 64);
    Due.is("hidden()", most.hidden(), 62);
    Due.row(most, ~Due.bits(6, 7), Due.bits(6, 7), 1);
    // tests() of each, one by one
    String[] nets = {SIX, SEVEN, States.NET};
    for (String net : nets) {
      FaultLists x = new FaultLists();
      Due.text(x, net);
      int faults = x.net();
      long hidden = 0;
      long[] by = new long[7];
      for (int f = 0; f < faults; f++) {
        int length = x.tests(f);
        if (length < 0) hidden |= 1L << f; else by[length] |= 1L << f;
      }
      int greatest = 6;
      while (by[greatest] == 0) greatest--;
      Due.is("hidden() of " + net, x.hidden(), Long.bitCount(hidden));
      Due.row(x, hidden, by[greatest], greatest);
      if (net.equals(SIX)) Due.is("the greatest of SIX", greatest, 6);
    }
  }

  private static void needless() {
    Due.of(23, "TICKS of THE RUN without each of which, alone, all that are DETECTED would be so (as if DROPPING were off; TICKS behind it come one sooner): how many; the ROW: they (bits).");
    FaultLists x = new FaultLists();
    Due.is("needless() of no TICK", x.needless(), 0);
    Due.row(x, 0);
    apply(x, "u");
    Due.is("needless() of one that shows none", x.needless(), 1);
    Due.row(x, 1);
    apply(x, "1");
    Due.is("needless()", x.needless(), 1);
    Due.row(x, 1);
    apply(x, "1");
    Due.is("needless(): each alone", x.needless(), 3);
    Due.row(x, 7);
    FaultLists full = new FaultLists();
    apply(full, "0".repeat(24));
    Due.is("needless() of 24", full.needless(), 24);
    Due.row(full, 0xFFFFFF);
    FaultLists last = new FaultLists();
    apply(last, "0".repeat(23) + "1");
    Due.is("needless(): TICK 23 is not", last.needless(), 23);
    Due.row(last, 0x7FFFFF);
    // 1, 0, 0: without TICK 1 what was held of the 1 is seen a TICK sooner; DROPPING is as off
    FaultLists y = Due.withNet("1;#a0:b", 6);
    Due.is("drops(1)", y.drops(1), 0);
    Due.applies(y, "100", 6, 63);
    // without 0 or without 1 the 1 or the 0 is not seen; without 2 the 0 is held alone
    Due.is("needless()", y.needless(), 0);
    Due.row(y, 0);
    Due.applies(y, "0", 0, 0);
    Due.is("needless()", y.needless(), 3);
    Due.row(y, 14);
  }

  private static void shorter() {
    Due.of(24, "TICKS of THE RUN go, from the latest to the first, each if without it (and those that went) all that are DETECTED would be so (as if DROPPING were off): how many would be left; the ROW: those that are (bits, by their numbers now).");
    FaultLists x = new FaultLists();
    Due.is("shorter() of no TICK", x.shorter(), 0);
    Due.row(x, 0);
    apply(x, "u");
    Due.is("shorter() of one that shows none", x.shorter(), 0);
    Due.row(x, 0);
    apply(x, "11");
    Due.is("shorter(): the later one goes", x.shorter(), 1);
    Due.row(x, 2);
    Due.is("count(6): THE RUN stays", x.count(6), 3);
    FaultLists full = new FaultLists();
    apply(full, "0".repeat(24));
    Due.is("shorter() of 24", full.shorter(), 1);
    Due.row(full, 1);
    FaultLists last = new FaultLists();
    apply(last, "0".repeat(23) + "1");
    Due.is("shorter()", last.shorter(), 2);
    Due.row(last, 1 | 1 << 23);
    // each is needed
    FaultLists y = Due.withNet(ODD, 64);
    Due.is("drops(1)", y.drops(1), 0);
    apply(y, "0000".repeat(20));
    apply(y, "1000010000100001");
    Due.is("detected()", y.detected(), 64);
    // the four last ones alone show all
    Due.is("shorter()", y.shorter(), 4);
    Due.row(y, 0xF00000);
  }

  private static void blames() {
    Due.of(25, "THE TEXT tells what was seen at the OUTPUTS, in their order, TICK by TICK of THE RUN (signs 0, 1, u: not seen; of as many TICKS as there are, or fewer):");
    FaultLists x = Due.withNet("2:ba", 4);
    apply(x, "0111");
    // b is 1, 1, a is 0, 1
    String[] seen = {"", "1u", "u0", "10", "1011", "uuuu", "uuu1", "00", "11", "uu10", "0u0u", "0u1u"};
    long[] due = {15, 11, 13, 9, 8, 15, 14, 4, 2, 1, 4, 0};
    int[] good = {1, 1, 1, 1, 1, 1, 1, 0, 0, 0, 0, 0};
    for (int i = 0; i < seen.length; i++) {
      Due.text(x, seen[i]);
      Due.is("blames() of " + seen[i], x.blames(), Long.bitCount(due[i]));
      Due.row(x, due[i], good[i]);
      Due.is("count(9)", x.count(9), Long.bitCount(due[i]));
    }
    Due.of(25, "FAULTS by which nothing is otherwise (no 0 was seen where it is 1, no 1 where it is 0; DROPPING being as off): how many; the ROW: they, 1 if nothing is otherwise by the GOOD one, else 0.");
    FaultLists y = Due.withNet(ODD, 64);
    Due.is("drops(1)", y.drops(1), 0);
    apply(y, "0000".repeat(20));
    Due.text(y, "0000".repeat(20));
    // DROPPED at the first TICK, they would be seen at all
    Due.is("blames()", y.blames(), 32);
    Due.row(y, 0x5555555555555555L, 1);
    Due.text(y, "000000000001");
    // l alone at 1, but not at the first TICKS: by none
    Due.is("blames()", y.blames(), 0);
    Due.row(y, 0, 0);
    Due.text(y, "0001".repeat(20));
    Due.is("blames(): l alone", y.blames(), 4);
    Due.row(y, Due.bits(23, 59, 61, 63), 0);
    Due.text(y, "u".repeat(80));
    Due.is("blames()", y.blames(), 64);
    Due.row(y, -1L, 1);
    Due.is("count(9)", y.count(9), 64);
    // not known by the GOOD one and by the FAULT is not otherwise
    FaultLists z = new FaultLists();
    apply(z, "u");
    Due.text(z, "1");
    Due.is("blames()", z.blames(), 1);
    Due.row(z, 2, 1);
    Due.of(25, "They are THE SUSPECTS (the GOOD one none of them).");
    Due.is("count(9)", z.count(9), 1);
    Due.is("parts()", z.parts(), -2);
    Due.text(z, "");
    Due.is("blames()", z.blames(), 2);
    Due.is("count(9)", z.count(9), 2);
    Due.is("parts()", z.parts(), 0);
    Due.row(z, 1);
  }

  private static void blamesSigns() {
    Due.of(25, "-1 - p: the sign at p can't stand there (its end, if it ends within a TICK; a TICK that there was not).");
    FaultLists x = Due.withNet("3:cab", 6);
    apply(x, "000111");
    Due.text(x, "uuu");
    Due.is("blames()", x.blames(), 6);
    int[] signs = {0, '/', '2', 'U', 'v', 'x', 128 + '0', 255};
    for (int p = 0; p < 6; p++) {
      Due.text(x, "0u10u1".substring(0, p) + (char) signs[p] + "0u10u1".substring(p + 1));
      Due.is("blames() with the sign " + signs[p] + " at " + p, x.blames(), -1 - p);
      Due.is("count(12)", x.count(12), 0);
    }
    for (int n = 1; n < 6; n++) {
      Due.text(x, "0u10u1".substring(0, n));
      if (n != 3) Due.is("blames() of " + n + " signs", x.blames(), -1 - n);
    }
    for (int n = 7; n <= 12; n++) {
      Due.text(x, "uuuuuuuuuuuu".substring(0, n));
      Due.is("blames() of " + n + " signs", x.blames(), -7);
    }
    // refused ones leave THE SUSPECTS and the ROW
    Due.is("count(9)", x.count(9), 6);
    Due.row(x, 63, 1);
    FaultLists none = new FaultLists();
    Due.text(none, "u");
    Due.is("blames() without a TICK", none.blames(), -1);
    Due.row(none);
    Due.is("count(9)", none.count(9), 0);
    Due.text(none, "");
    Due.is("blames() of none without a TICK", none.blames(), 2);
    Due.row(none, 3, 1);
    FaultLists four = Due.withNet("4:abcd", 8);
    apply(four, "uuuu".repeat(19));
    Due.text(four, "u".repeat(80));
    Due.is("blames() of 20 TICKS of 19", four.blames(), -77);
    apply(four, "uuuu".repeat(5));
    Due.text(four, "u".repeat(80));
    Due.is("blames() of 20 TICKS of 24", four.blames(), 8);
    Due.text(four, "u".repeat(79));
    Due.is("blames() of 79 signs", four.blames(), -80);
    FaultLists three = Due.withNet("3:abc", 6);
    apply(three, "uuu".repeat(24));
    Due.text(three, "u".repeat(72));
    Due.is("blames() of 24 TICKS of 24", three.blames(), 6);
    Due.text(three, "u".repeat(73));
    Due.is("blames() of 73 signs", three.blames(), -73);
  }

  private static void parts() {
    Due.of(26, "The PATTERN of 0 and 1 (as a number) by which THE SUSPECTS (at first none;");
    FaultLists fresh = new FaultLists();
    Due.is("parts()", fresh.parts(), -2);
    Due.is("count(9)", fresh.count(9), 0);
    Due.of(26, "part best behind THE RUN, one TICK more (DROPPING being as off): that by which the greatest number of them that have like VALUES at all OUTPUTS is least (of equal ones the least PATTERN): it; the ROW: that number.");
    FaultLists x = Due.withNet("4:abcd", 8);
    Due.text(x, "");
    Due.is("blames()", x.blames(), 8);
    // by each PATTERN four are as the GOOD one, the others are unlike
    Due.is("parts()", x.parts(), 0);
    Due.row(x, 4);
    apply(x, "0000");
    Due.text(x, "0000");
    Due.is("blames(): all at 0", x.blames(), 4);
    // all of them are unlike by 1111 alone; by 0111 one is as the GOOD one, and that is one, too
    Due.is("parts()", x.parts(), 7);
    Due.row(x, 1);
    // the highest PATTERN: 11 that are at 0 what is 1 by 1111 alone, and 4 of g, which nothing reads
    FaultLists high = Due.withNet("4;&abc;&de;!a:f", 26);
    Due.is("drops(1)", high.drops(1), 0);
    apply(high, "0111101111011110");
    Due.text(high, "0000");
    Due.is("blames()", high.blames(), 15);
    Due.is("parts()", high.parts(), 15);
    Due.row(high, 11);
    FaultLists two = new FaultLists();
    Due.text(two, "");
    Due.is("blames()", two.blames(), 2);
    Due.is("parts() of two", two.parts(), 0);
    Due.row(two, 1);
    // behind 24 TICKS there is one more all the same
    apply(two, "u".repeat(24));
    Due.is("parts()", two.parts(), 0);
    Due.row(two, 1);
    FaultLists all = Due.withNet(BLIND, 64);
    Due.text(all, "");
    Due.is("blames()", all.blames(), 64);
    // l at 0, l at 1, its PIN is a TICK late: the others are not known
    Due.is("parts()", all.parts(), 0);
    Due.row(all, 62);
    apply(all, "uuuu");
    Due.is("parts(): behind THE RUN", all.parts(), 0);
    Due.row(all, 60);
    partsOfHeld();
    Due.of(26, "-2: there are fewer than two.");
    Due.text(x, "1uuu");
    Due.is("blames(): a at 1", x.blames(), 1);
    Due.is("parts()", x.parts(), -2);
    Due.text(x, "11uu");
    Due.is("blames(): none", x.blames(), 0);
    Due.is("parts()", x.parts(), -2);
    Due.row(x, 0, 0);
  }

  /** What REGISTERS hold behind THE RUN, from START on, whatever was asked before. */
  private static void partsOfHeld() {
    FaultLists x = Due.withNet("1;#c0;^ab:b", 12);
    apply(x, "1");
    // at the next TICK b is 1 by the GOOD one, whatever the PATTERN
    for (int i = 0; i < 3; i++) {
      Due.text(x, "");
      Due.is("blames()", x.blames(), 12);
      Due.row(x, 4095, 1);
      Due.text(x, "0");
      Due.is("blames(): b was 0", x.blames(), 11);
      Due.row(x, 4095 - 8, 1);
      // b is 0 then by FAULTS 0, 2, 4, 6, 8, 11, by the others 1
      Due.is("parts()", x.parts(), 0);
      Due.row(x, 6);
      Due.is("drawn(7, 3)", x.drawn(7, 3) > 0, true);
    }
  }

  private static void partsForgets() {
    Due.of(26, "net() and begins() forget them)");
    FaultLists x = Due.withNet(AND, 10);
    Due.text(x, "");
    Due.is("blames()", x.blames(), 10);
    Due.is("begins()", x.begins(), 0);
    Due.is("count(9)", x.count(9), 0);
    Due.is("parts()", x.parts(), -2);
    Due.text(x, "");
    Due.is("blames()", x.blames(), 10);
    // a refused one does not, and neither does more of THE RUN
    Due.text(x, "5");
    Due.is("net()", x.net(), -1);
    Due.is("count(9)", x.count(9), 10);
    Due.applies(x, "11", 5, 341);
    Due.is("count(9)", x.count(9), 10);
    Due.text(x, AND);
    Due.is("net()", x.net(), 10);
    Due.is("count(9)", x.count(9), 0);
    Due.is("parts()", x.parts(), -2);
  }

  private static void drawn() {
    Due.of(27, "n (1 .. 24) PATTERNS of a seed, from START on: TICK by TICK, INPUT by INPUT a DRAW of 2 is its VALUE: how many FAULTS would be DETECTED; the ROW: they, the last TICK at which one is DETECTED that was not ahead of it (NONE: none is).");
    // INPUT by INPUT: of seed 1 the draws are 0 0 1 1, 1 1 0 1
    FaultLists x = Due.withNet("4:abcd", 8);
    Due.is("drawn(1, 1)", x.drawn(1, 1), 4);
    Due.row(x, Due.bits(1, 3, 4, 6), 0);
    Due.is("drawn(1, 2)", x.drawn(1, 2), 7);
    Due.row(x, 127, 1);
    Due.is("count(6): nothing is done", x.count(6), 0);
    // from START on, DROPPING being another thing
    Due.is("drops(1)", x.drops(1), 0);
    apply(x, "0011");
    Due.is("drawn(1, 2)", x.drawn(1, 2), 7);
    Due.is("detected()", x.detected(), 4);
    Due.row(x, Due.bits(1, 3, 4, 6), Due.bits(1, 3, 4, 6));
    FaultLists none = Due.withNet("1;#b:b", 6);
    Due.is("drawn(0, 24)", none.drawn(0, 24), 0);
    Due.row(none, 0, -1);
    FaultLists odd = Due.withNet(ODD, 64);
    Due.is("drawn(0, 24)", odd.drawn(0, 24), 64);
    Due.is("row(0)", odd.row(0), -1);
    // 24 TICKS of one INPUT: a REGISTER shows the first a TICK later
    FaultLists held = Due.withNet("1;#a0:b", 6);
    Due.is("drawn(0, 1)", held.drawn(0, 1), 1);
    Due.row(held, 8, 0);
    Due.is("drawn(0, 24)", held.drawn(0, 24), 6);
    Due.row(held, 63, 4);
    Due.of(27, "A DRAW of n: R = R times 1103515245 + 12345 (as ints; R is seed at first), (R without sign, by 65536) % n.");
    int[] seeds = {0, 1, -1, Integer.MIN_VALUE, Integer.MAX_VALUE, 7, 12345};
    String[] draws = {"000101110010101101010111", "001111010011001111100011", "110010010011101010111000", "000101110010101101010111",
        "110010010011101010111000", "000011001111001010000110", "001011100101011010101110"};
    for (int s = 0; s < seeds.length; s++) {
      FaultLists one = new FaultLists();
      int other = draws[s].indexOf((char) ('0' + '1' - draws[s].charAt(0)));
      for (int n = 1; n <= 24; n++) {
        Due.is("drawn(" + seeds[s] + ", " + n + ")", one.drawn(seeds[s], n), n <= other ? 1 : 2);
        Due.row(one, n > other ? 3 : draws[s].charAt(0) == '0' ? 2 : 1, n > other ? other : 0);
      }
    }
    drawnByAll(seeds, draws);
  }

  /** Each draw by itself: of REGISTERS that hold the last ones, drawn() is as applies() of the draws. */
  private static void drawnByAll(int[] seeds, String[] draws) {
    for (int s = 0; s < seeds.length; s++) {
      for (int n = 4; n <= 24; n += 4) {
        FaultLists x = Due.withNet("1;#a;#b;#c;&abc;rabd;^bcd:efg", 38);
        Due.text(x, draws[s].substring(0, n));
        int due = x.applies();
        long faults = x.row(0);
        int last = -1;
        for (int f = 0; f < 38; f++) last = Math.max(last, x.when(f));
        Due.is("drawn(" + seeds[s] + ", " + n + ")", x.drawn(seeds[s], n), due);
        Due.row(x, faults, last < 0 ? -1 : last);
      }
    }
  }

  private static void drawnNone() {
    Due.of(27, "NONE: another n.");
    FaultLists x = new FaultLists();
    Due.is("drawn(1, 1)", x.drawn(1, 1), 1);
    Due.is("drawn(1, 24)", x.drawn(1, 24), 2);
    Due.row(x, 3, 2);
    Due.is("drawn(1, 0)", x.drawn(1, 0), -1);
    for (int n : Due.outside(25)) Due.is("drawn(1, " + n + ")", x.drawn(1, n), -1);
    for (int n : Due.outside(25)) Due.is("drawn(-1, " + n + ")", x.drawn(-1, n), -1);
    Due.row(x, 3, 2);
  }
}
