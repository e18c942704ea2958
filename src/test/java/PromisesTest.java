/**
 * Each promise by ordinary answers that were worked out by hand from the document.
 *
 * <p>The net 2;&amp;ab:c is used most: FAULTS 0, 1 of a, 2, 3 of b, 4, 5 of c, 6, 7 of the PIN that
 * reads a, 8, 9 of the one that reads b. By 11 c is 1, and 0, 2, 4, 6, 8 show (341); by 01 c is 0, and
 * 1, 5, 7 show (162); by 10 3, 5, 9 (552); by 00 5 alone (32).
 */
public final class PromisesTest {
  private static final String AND = "2;&ab:c";

  public static void main(String[] args) {
    aNewObject();
    sign();
    end();
    net();
    netRefused();
    cause();
    line();
    pin();
    applies();
    appliesGates();
    would();
    begins();
    drops();
    value();
    faulty();
    holds();
    detected();
    when();
    sample();
    critical();
    classes();
    classOf();
    tests();
    hidden();
    needless();
    shorter();
    blames();
    parts();
    drawn();
    keepAndAgain();
    count();
    row();
    Due.leave();
  }

  private static long bits(int... set) {
    long b = 0;
    for (int i : set) b |= 1L << i;
    return b;
  }

  private static void aNewObject() {
    Due.of(1, "THE NET 1:a; no TICK yet.");
    FaultLists x = new FaultLists();
    int[] counts = {1, 1, 0, 0, 1, 2, 0, 0, 0, 0, 0, 0, 0};
    for (int i = 0; i < counts.length; i++) Due.is("count(" + i + ")", x.count(i), counts[i]);
    Due.is("NONE", FaultLists.NONE, -1);
    Due.row(x);
    Due.is("value(0)", x.value(0), -2);
    Due.is("again(0)", x.again(0), false);
    Due.is("again(1)", x.again(1), false);
    Due.is("cause(0, 0)", x.cause(0, 0), -1);
    Due.is("parts()", x.parts(), -2);
    Due.is("line(0, 4)", x.line(0, 4), 1);
    Due.applies(x, "0", 1, 2);
  }

  private static void sign() {
    Due.of(2, "Four signs come behind THE TEXT, of v the highest byte first: how many it has.");
    FaultLists x = new FaultLists();
    // the highest byte first: 3 inputs, of which a and c are outputs
    Due.is("sign", x.sign('3' << 24 | ':' << 16 | 'a' << 8 | 'c'), 4);
    Due.is("net()", x.net(), 6);
    Due.is("line(2, 4)", x.line(2, 4), 1);
    Due.is("line(1, 4)", x.line(1, 4), 0);
    for (int i = 1; i <= 19; i++) Due.is("sign", x.sign(-1), 4 * i);
    Due.is("end(77)", x.sign(0) == 80 && x.end(77), true);
    Due.is("sign: 81 signs", x.sign('1' << 24), -1);
    Due.is("count(12)", x.count(12), 77);
    Due.is("end(76)", x.end(76), true);
    Due.is("sign: 80 signs", x.sign('1' << 24), 80);
    Due.is("sign: 84 signs", x.sign(0), -1);
    Due.is("count(12)", x.count(12), 80);
    Due.is("sign(-1) is no value", x.applies(), -1);
  }

  private static void end() {
    Due.of(3, "THE TEXT has its first n signs alone: true; false if it has not so many, or n is below 0.");
    FaultLists x = new FaultLists();
    Due.is("end(0)", x.end(0), true);
    Due.is("end(1)", x.end(1), false);
    Due.is("end(-1)", x.end(-1), false);
    Due.text(x, "0101");
    Due.is("end(5)", x.end(5), false);
    Due.is("end(-1)", x.end(-1), false);
    Due.is("end(min)", x.end(Integer.MIN_VALUE), false);
    Due.is("count(12)", x.count(12), 4);
    Due.is("end(4)", x.end(4), true);
    Due.is("end(3)", x.end(3), true);
    Due.is("count(12)", x.count(12), 3);
    Due.is("applies()", x.applies(), 2);
    Due.is("count(6)", x.count(6), 3);
  }

  private static void net() {
    Due.of(4, "THE TEXT is THE NET: how many FAULTS there are;");
    Due.is("count(0)", Due.withNet("4:abcd", 8).count(0), 4);
    Due.terms("a REGISTER has one PIN, that reads any LINE, and a START 0, 1, or 2.");
    // a REGISTER may read itself, and a LINE told behind it
    Due.withNet("1;!a;=b;#e0;#e1;#a:f", 22);
    Due.withNet("3;&abc;|abc;^ab;nabc;rab:hgfe", 42);
    Due.terms("PINS are numbered 0, 1, .. as they are told, through all LINES (at most 20).");
    // 12 LINES, 20 PINS
    FaultLists most = Due.withNet("4;&abc;&abc;&abc;&abc;&ab;&ab;&ab;&ab:lkji", 64);
    Due.is("count(3)", most.count(3), 20);
    Due.is("count(0)", most.count(0), 12);
    Due.of(4, "THE RUN begins anew, DROPPING is off.");
    // a new net begins anew, and DROPPING is off, the suspects are none; a refused one changes nothing
    FaultLists x = Due.withNet(AND, 10);
    Due.is("drops(1)", x.drops(1), 0);
    Due.applies(x, "11", 5, 341);
    Due.text(x, "");
    Due.is("blames()", x.blames(), 10);
    Due.text(x, "1:b");
    Due.is("net()", x.net(), -3);
    Due.is("count(12)", x.count(12), 0);
    Due.text(x, "1;#c:a");
    Due.is("net()", x.net(), -200);
    Due.is("count(12)", x.count(12), 0);
    Due.is("count(0)", x.count(0), 3);
    Due.is("count(6)", x.count(6), 1);
    Due.is("count(8)", x.count(8), 1);
    Due.is("count(9)", x.count(9), 10);
    Due.row(x, 1023, 1);
    Due.text(x, "2;|ab:c");
    Due.is("net()", x.net(), 10);
    Due.is("count(6)", x.count(6), 0);
    Due.is("count(7)", x.count(7), 0);
    Due.is("count(8)", x.count(8), 0);
    Due.is("count(9)", x.count(9), 0);
    Due.is("line(2, 0)", x.line(2, 0), 4);
    Due.row(x, 1023, 1);
  }

  private static void refused(String text, int answer) {
    FaultLists x = new FaultLists();
    Due.text(x, text);
    Due.is("net() of " + text, x.net(), answer);
    Due.is("count(5) behind " + text, x.count(5), 2);
    Due.is("count(12) behind " + text, x.count(12), 0);
  }

  private static void netRefused() {
    Due.of(4, "-1 - p: the sign at p can't stand there");
    refused("", -1);
    refused("0:a", -1);
    refused("5:a", -1);
    refused(":a", -1);
    refused("1", -2);
    refused("1a", -2);
    refused("1:", -3);
    refused("1;", -3);
    refused("1;:a", -3);
    refused("1;a:a", -3);
    refused("1;!", -4);
    refused("1;!:a", -4);
    refused("1;!b:a", -4);
    refused("1;!a", -5);
    refused("1;!aa:a", -5);
    refused("1;&a:a", -5);
    refused("1;&ab:a", -5);
    refused("1;&aab:a", -6);
    refused("1;&aaaa:a", -7);
    refused("1;&aaz:a", -6);
    refused("1;#:a", -4);
    refused("1;#m:a", -4);
    refused("1;#a2:a", -5);
    refused("1;#a01:a", -6);
    refused("1;#aa:a", -5);
    refused("1;!a0:a", -5);
    refused("1;!a;#d:a", -200);
    refused("1;#l:a", -200);
    refused("1:m", -3);
    refused("1:b", -3);
    refused("1:aa", -4);
    refused("1:a;", -4);
    refused("4;!a:abcde", -10);
    refused("4;!a:abcda", -10);
    refused("4;!a;!a;!a;!a;!a;!a;!a;!a;!a:a", -27);
    refused("1;#a;#a;#a;#a:a", -12);
    Due.of(4, "-200: a REGISTER's PIN reads a LINE that there is not (asked behind all signs).");
    // -200 is asked behind all signs
    refused("1;#c:aa", -7);
    Due.of(4, "a letter by which there would be 21 PINS;");
    // the 21st PIN: 18 and 2, then a third letter; a REGISTER's letter
    refused("4;&abc;&abc;&abc;&abc;&abc;&abc;&abc:a", -36);
    refused("4;&abc;&abc;&abc;&abc;&abc;&abc;&ab;#a:a", -38);
    // of one place the sign comes ahead: what can't stand there is no PIN
    refused("4;&abc;&abc;&abc;&abc;&abc;&abc;&ab;!:a", -38);
  }

  private static void chain(String text, int... due) {
    FaultLists x = new FaultLists();
    Due.text(x, text);
    Due.is("net() of " + text + " is refused", x.net() < 0, true);
    for (int i = 0; i < due.length; i++) {
      Due.is("cause(" + i / 2 + ", " + i % 2 + ") of " + text, x.cause(i / 2, i % 2), due[i]);
    }
    Due.is("cause behind the last of " + text, x.cause(due.length / 2, 0), -1);
    Due.is("cause behind the last of " + text, x.cause(due.length / 2, 1), -1);
    Due.is("cause(0, 2)", x.cause(0, 2), -1);
    Due.is("cause(0, -1)", x.cause(0, -1), -1);
    Due.is("cause(-1, 0)", x.cause(-1, 0), -1);
    // kept states are another thing, and questions leave it
    x.keep(0);
    x.again(0);
    x.begins();
    Due.is("cause(0, 0)", x.cause(0, 0), 1);
    Due.text(x, "1:a");
    Due.is("net()", x.net(), 2);
    Due.is("cause(0, 0) behind a right one", x.cause(0, 0), -1);
  }

  private static void cause() {
    Due.of(5, "Why the latest net() was refused, as a chain:");
    chain("", 1, 0, 3, 0);
    chain("x", 1, 0, 3, 0);
    chain("3", 1, 3, 3, 1);
    chain("3x", 1, 3, 3, 1);
    chain("2;x", 1, 2, 3, 2);
    chain("2;", 1, 2, 3, 2);
    chain("2;!", 1, 2, 2, 2, 3, 3);
    chain("2;!x", 1, 2, 2, 2, 3, 3);
    chain("2;!c", 1, 2, 2, 2, 5, 2, 3, 3);
    chain("2;!l", 1, 2, 2, 2, 5, 11, 3, 3);
    chain("2;!m", 1, 2, 2, 2, 3, 3);
    chain("2;!ab", 1, 3, 3, 4);
    chain("2;!a", 1, 3, 3, 4);
    chain("2;&a", 1, 2, 2, 2, 3, 4);
    chain("2;&a0", 1, 2, 2, 2, 3, 4);
    chain("2;&ac", 1, 2, 2, 2, 5, 2, 3, 4);
    chain("2;&ab", 1, 3, 3, 5);
    chain("2;&abz", 1, 3, 3, 5);
    chain("2;&abc", 1, 2, 2, 2, 5, 2, 3, 5);
    chain("2;&abab", 1, 3, 3, 6);
    chain("2;&abak", 1, 3, 3, 6);
    chain("2;#", 1, 2, 2, 2, 3, 3);
    chain("2;#k", 1, 3, 3, 4);
    chain("2;#k2", 1, 3, 3, 4);
    chain("2;#k1", 1, 3, 3, 5);
    chain("2;#k10", 1, 3, 3, 5);
    chain("2;#kk", 1, 3, 3, 4);
    chain("2;#a;#k;#l:a", 1, 5, 2, 3, 5, 10);
    chain("2:", 1, 2, 3, 2);
    chain("2:;", 1, 2, 3, 2);
    chain("2:c", 1, 2, 5, 2, 3, 2);
    chain("2:aa", 1, 2, 5, 0, 3, 3);
    chain("2:ab1", 1, 2, 3, 4);
    chain("4;!a:abcde", 1, 5, 4, 9);
    chain("4;!a:abcdf", 1, 5, 5, 5, 3, 9);
    chain("4;!a:abcda", 1, 5, 5, 0, 3, 9);
    chain("4;!a:abcdz", 1, 5, 3, 9);
    chain("4;!a;!a;!a;!a;!a;!a;!a;!a;!a:a", 1, 12, 2, 12, 4, 26);
    chain("4;!a;!a;!a;!a;!a;!a;!a;!a;a:a", 1, 12, 3, 26);
    chain("4;!a;!a;!a;!a;!a;!a;!a;!a;", 1, 12, 3, 26);
    chain("1;#a;#a;#a;#a:a", 1, 4, 2, 4, 4, 11);
    Due.of(5, "or there is no room for it;");
    // 20 PINS are there, the 21st has no room: a third letter, a second one, a REGISTER's
    chain("4;&abc;&abc;&abc;&abc;&abc;&abc;&aba:a", 1, 10, 2, 10, 4, 35);
    chain("4;&abc;&abc;&abc;&abc;&abc;&abc;=a;&aa:a", 1, 11, 2, 11, 4, 37);
    chain("4;&abc;&abc;&abc;&abc;&abc;&abc;&ab;#a:a", 1, 11, 2, 11, 4, 37);
    Due.of(5, "(of one place the first of 3, 5, 4)");
    // of one place 3 comes ahead of 5, and 5 of 4
    chain("4;&abc;&abc;&abc;&abc;&abc;&abc;&abk:a", 1, 10, 2, 10, 5, 10, 3, 35);
    chain("4;&abc;&abc;&abc;&abc;&abc;&abc;&ab;!l:a", 1, 11, 2, 11, 5, 11, 3, 37);
    chain("4;&abc;&abc;&abc;&abc;&abc;&abc;&ab;!z:a", 1, 11, 2, 11, 3, 37);
    chain("4;&abc;&abc;&abc;&abc;&abc;&abc;&ab;#l:a", 1, 11, 2, 11, 4, 37);
    chain("4;&abc;&abc;&abc;&abc;&abc;&abc;&abz:a", 1, 11, 3, 35);
  }

  private static void line() {
    Due.of(6, "Of LINE k, what 0: its sort");
    FaultLists x = Due.withNet("1;!a;=a;&ab;|cba;^ab;nabc;rab;#a0;#i1;#k:ki", 56);
    int[] sorts = {0, 1, 2, 3, 4, 5, 6, 7, 8, 8, 8};
    int[] widths = {0, 1, 1, 2, 3, 2, 3, 2, 1, 1, 1};
    int[] firsts = {-1, 0, 1, 2, 4, 7, 9, 12, 14, 15, 16};
    int[] starts = {-1, -1, -1, -1, -1, -1, -1, -1, 0, 1, 2};
    for (int k = 0; k < sorts.length; k++) {
      Due.is("line(" + k + ", 0)", x.line(k, 0), sorts[k]);
      Due.is("line(" + k + ", 1)", x.line(k, 1), widths[k]);
      Due.is("line(" + k + ", 2)", x.line(k, 2), firsts[k]);
      Due.is("line(" + k + ", 3)", x.line(k, 3), starts[k]);
      Due.is("line(" + k + ", 4)", x.line(k, 4), k == 10 || k == 8 ? 1 : 0);
      int at = k;
      Due.thrown("line(" + k + ", 6)", () -> x.line(at, 6));
      Due.thrown("line(" + k + ", -1)", () -> x.line(at, -1));
    }
    Due.thrown("line(11, 0)", () -> x.line(11, 0));
    Due.thrown("line(-1, 0)", () -> x.line(-1, 0));
  }

  private static void pin() {
    Due.of(7, "The LINE that PIN p reads. NoSuchElementException: none such.");
    FaultLists x = Due.withNet("2;&ba;#e;|cab;!d:f", 26);
    int[] reads = {1, 0, 4, 2, 0, 1, 3};
    for (int p = 0; p < reads.length; p++) Due.is("pin(" + p + ")", x.pin(p), reads[p]);
    Due.thrown("pin(7)", () -> x.pin(7));
    Due.thrown("pin(-1)", () -> x.pin(-1));
    Due.is("line(0, 5)", x.line(0, 5), 2);
    Due.is("line(4, 5): a REGISTER's PIN reads it", x.line(4, 5), 1);
    Due.is("line(5, 5)", x.line(5, 5), 0);
    FaultLists y = Due.withNet("1;&aa:b", 8);
    Due.is("line(0, 5): two PINS of one GATE", y.line(0, 5), 2);
  }

  private static void applies() {
    Due.of(8, "the TICKS are done: how many FAULTS are DETECTED that were not; the ROW: they.");
    FaultLists x = Due.withNet(AND, 10);
    Due.applies(x, "", 0, 0);
    Due.is("count(6)", x.count(6), 0);
    Due.applies(x, "11", 5, 341);
    Due.applies(x, "0110", 5, 682);
    Due.is("count(6)", x.count(6), 3);
    Due.text(x, "11u0a1");
    Due.is("applies()", x.applies(), -5);
    Due.is("count(12)", x.count(12), 0);
    Due.text(x, "110");
    Due.is("applies(): the end within a PATTERN", x.applies(), -4);
    Due.is("count(6)", x.count(6), 3);
    Due.row(x, 682);
    String twentyOne = "000000000000000000000000000000000000000000";
    Due.text(x, twentyOne + "00");
    Due.is("applies(): 25 TICKS", x.applies(), -200);
    Due.is("count(12)", x.count(12), 0);
    Due.is("count(6)", x.count(6), 3);
    Due.of(8, "-200: THE RUN would have more than 24 TICKS (nothing is done).");
    // a sign that can't stand comes ahead of too many TICKS
    Due.text(x, twentyOne + "00x0");
    Due.is("applies()", x.applies(), -45);
    Due.applies(x, twentyOne, 0, 0);
    Due.is("count(6)", x.count(6), 24);
    Due.text(x, "00");
    Due.is("applies(): 25 TICKS", x.applies(), -200);
    Due.applies(x, "", 0, 0);
  }

  /** One GATE of each sort by all values of its PINS: the answer is the list of its own FAULTS that show. */
  private static void appliesGates() {
    Due.terms("GATES: ! (not) and = (the same) with 1 PIN; &, |, ^, n (not &), r (not |) with 2 or 3:");
    String[] values = {"00", "01", "0u", "10", "11", "1u", "u0", "u1", "uu"};
    String[] sorts = {"&ab", "|ab", "^ab", "nab", "rab", "&aab", "|abb", "^abb", "!b", "=b"};
    String[] due = {"000012022", "012111212", "012102222", "111102122", "102000202",
        "000012022", "012111212", "", "102102102", "012012012"};
    for (int s = 0; s < sorts.length; s++) {
      for (int v = 0; v < values.length; v++) {
        FaultLists x = new FaultLists();
        Due.text(x, "2;" + sorts[s] + ":c");
        x.net();
        Due.text(x, values[v]);
        x.applies();
        // an even number of b's in ^abb: a alone tells, if b is known
        boolean unknown = values[v].indexOf('u') >= 0;
        int is = sorts[s].equals("^abb") ? (unknown ? 2 : values[v].charAt(0) - '0') : due[s].charAt(v) - '0';
        Due.is("value(2) of " + sorts[s] + " by " + values[v], x.value(2), is);
        Due.is("faulty(4, 2)", x.faulty(4, 2), 0);
        Due.is("faulty(5, 2)", x.faulty(5, 2), 1);
        Due.is("detected 4", x.when(4), is == 1 ? 0 : -2);
        Due.is("detected 5", x.when(5), is == 0 ? 0 : -2);
      }
    }
  }

  private static void would() {
    Due.of(9, "What applies() would tell (the ROW, too); nothing is done.");
    FaultLists x = Due.withNet(AND, 10);
    Due.is("drops(1)", x.drops(1), 0);
    Due.text(x, "11");
    Due.is("would()", x.would(), 5);
    Due.row(x, 341);
    Due.is("count(12)", x.count(12), 0);
    Due.is("count(6)", x.count(6), 0);
    Due.is("value(0)", x.value(0), -2);
    Due.is("detected()", x.detected(), 0);
    Due.row(x, 0, 0);
    Due.applies(x, "11", 5, 341);
    Due.text(x, "1101");
    Due.is("would()", x.would(), 3);
    Due.row(x, 162);
    Due.is("value(2)", x.value(2), 1);
    Due.text(x, "112");
    Due.is("would()", x.would(), -3);
    Due.text(x, "1");
    Due.is("would()", x.would(), -2);
    Due.text(x, "00000000000000000000000000000000000000000000000000");
    Due.is("would()", x.would(), -200);
    Due.is("count(12)", x.count(12), 0);
    Due.row(x, 341, 0);
    Due.text(x, "");
    Due.is("would()", x.would(), 0);
    Due.row(x, 0);
    // what REGISTERS hold stays
    FaultLists y = Due.withNet("1;#a0:b", 6);
    Due.text(y, "11");
    Due.is("would()", y.would(), 4);
    Due.row(y, 1 | 4 | 8 | 16);
    Due.is("holds(1)", y.holds(1), 0);
  }

  private static void begins() {
    Due.of(10, "THE RUN begins anew (nothing is DETECTED, nothing DROPPED; DROPPING stays on or off): how many TICKS it had.");
    FaultLists x = Due.withNet("1;#a0:b", 6);
    Due.is("begins()", x.begins(), 0);
    Due.is("drops(1)", x.drops(1), 0);
    Due.applies(x, "11", 4, 29);
    Due.is("holds(1)", x.holds(1), 1);
    Due.text(x, "");
    Due.is("blames()", x.blames(), 6);
    Due.is("begins()", x.begins(), 2);
    Due.is("count(6)", x.count(6), 0);
    Due.is("count(8)", x.count(8), 1);
    Due.is("count(9)", x.count(9), 0);
    Due.is("count(10)", x.count(10), 0);
    Due.is("detected()", x.detected(), 0);
    Due.row(x, 0, 0);
    Due.is("holds(1)", x.holds(1), 0);
    Due.row(x, 0);
    Due.is("value(1)", x.value(1), -2);
    Due.is("when(3)", x.when(3), -2);
    Due.applies(x, "00", 3, 8 | 2 | 32);
  }

  private static void drops() {
    Due.of(11, "DROPPING is on (is 1) or off (0): how many are DROPPED so far. -2: it is so; NONE: another is.");
    FaultLists x = Due.withNet(AND, 10);
    Due.is("drops(0)", x.drops(0), -2);
    Due.is("drops(2)", x.drops(2), -1);
    Due.is("drops(-1)", x.drops(-1), -1);
    Due.applies(x, "11", 5, 341);
    Due.terms("a FAULT that SHOWS at a TICK while that is on is DROPPED");
    // those that are detected are not dropped by it, but when they show again
    Due.is("drops(1)", x.drops(1), 0);
    Due.is("drops(1)", x.drops(1), -2);
    Due.applies(x, "00", 1, 32);
    Due.is("detected()", x.detected(), 6);
    Due.row(x, 373, 32);
    Due.applies(x, "11", 0, 0);
    Due.is("detected()", x.detected(), 6);
    Due.row(x, 373, 373);
    Due.is("drops(0)", x.drops(0), 6);
    Due.applies(x, "01", 2, 130);
    Due.is("detected()", x.detected(), 8);
    Due.row(x, 503, 373);
    Due.terms("from the end of that TICK on it is as the GOOD one.");
    // what was dropped stays as the good one
    Due.is("faulty(5, 2)", x.faulty(5, 2), 0);
    Due.is("faulty(1, 2)", x.faulty(1, 2), 1);
    Due.is("drops(1)", x.drops(1), 6);
    // a fault that is dropped holds what the good one holds, from the end of that TICK on
    FaultLists y = Due.withNet("1;#a0:ab", 6);
    Due.is("drops(1)", y.drops(1), 0);
    Due.applies(y, "1", 2, 1 | 8);
    Due.is("holds(1)", y.holds(1), 1);
    Due.row(y, 16);
    Due.is("faulty(0, 0)", y.faulty(0, 0), 0);
    Due.applies(y, "1", 2, 4 | 16);
    Due.is("faulty(0, 1)", y.faulty(0, 1), 1);
    Due.is("value(0)", y.value(0), 1);
    Due.row(y, 0, 0);
  }

  private static void value() {
    Due.of(12, "VALUE of a LINE by the GOOD one at the latest TICK; the ROW: its LIST, its DOUBTS. -2: there was no TICK; NONE: none such.");
    FaultLists x = Due.withNet(AND, 10);
    Due.is("value(2)", x.value(2), -2);
    Due.is("value(3)", x.value(3), -1);
    Due.is("value(-1)", x.value(-1), -1);
    Due.row(x);
    Due.applies(x, "11", 5, 341);
    Due.is("value(2)", x.value(2), 1);
    Due.row(x, 341, 0);
    Due.is("value(0)", x.value(0), 1);
    Due.row(x, 1, 0);
    Due.is("value(1)", x.value(1), 1);
    Due.row(x, 4, 0);
    Due.applies(x, "1u", 0, 0);
    Due.is("value(2)", x.value(2), 2);
    Due.terms("DOUBTS: those by which one of the two is 2, the other not.");
    // all but a at 1 and its PIN at 1 make it known
    Due.row(x, 0, 1023 - 2 - 128);
    Due.is("value(1)", x.value(1), 2);
    Due.row(x, 0, 12);
    Due.applies(x, "0u", 1, 32);
    Due.is("value(2)", x.value(2), 0);
    Due.row(x, 32, 2 | 128);
    Due.is("value(3)", x.value(3), -1);
    Due.row(x, 32, 130);
    Due.terms("LIST of a LINE: FAULTS, not DROPPED ahead of the latest TICK");
    // the ones dropped at the latest TICK are still in its LISTS, the ones ahead of it are not
    Due.is("drops(1)", x.drops(1), 0);
    Due.applies(x, "11", 0, 0);
    Due.is("value(2)", x.value(2), 1);
    Due.row(x, 341, 0);
    Due.applies(x, "1u", 0, 0);
    Due.is("value(2)", x.value(2), 2);
    Due.row(x, 0, 8 | 32 | 512);
  }

  private static void faulty() {
    Due.of(13, "VALUE of a LINE by a FAULT at the latest TICK");
    FaultLists x = Due.withNet(AND, 10);
    Due.is("faulty(0, 0)", x.faulty(0, 0), -2);
    Due.is("faulty(10, 0)", x.faulty(10, 0), -1);
    Due.is("faulty(0, 3)", x.faulty(0, 3), -1);
    Due.is("faulty(-1, 0)", x.faulty(-1, 0), -1);
    Due.is("faulty(0, -1)", x.faulty(0, -1), -1);
    Due.applies(x, "1u", 0, 0);
    int[] ofC = {0, 2, 0, 1, 0, 1, 0, 2, 0, 1};
    int[] ofB = {2, 2, 0, 1, 2, 2, 2, 2, 2, 2};
    for (int f = 0; f < 10; f++) {
      Due.is("faulty(" + f + ", 2)", x.faulty(f, 2), ofC[f]);
      Due.is("faulty(" + f + ", 1)", x.faulty(f, 1), ofB[f]);
    }
    Due.row(x, 0);
    // ways part and meet again: a XOR a is 0 but by one PIN alone
    FaultLists y = Due.withNet("1;=a;=a;^bc:d", 16);
    Due.applies(y, "1", 7, 1 << 2 | 1 << 4 | 1 << 7 | 1 << 8 | 1 << 10 | 1 << 12 | 1 << 14);
    Due.is("faulty(0, 3)", y.faulty(0, 3), 0);
    Due.is("faulty(2, 3)", y.faulty(2, 3), 1);
  }

  private static void holds() {
    Due.of(14, "What a REGISTER (a LINE) holds by the GOOD one; the ROW: FAULTS, not DROPPED, by which it holds another VALUE (2, too). NONE: no REGISTER.");
    FaultLists x = Due.withNet("1;#a;#b1:c", 10);
    Due.is("holds(0)", x.holds(0), -1);
    Due.is("holds(3)", x.holds(3), -1);
    Due.is("holds(-1)", x.holds(-1), -1);
    Due.row(x);
    Due.is("holds(1)", x.holds(1), 2);
    Due.row(x, 0);
    Due.is("holds(2)", x.holds(2), 1);
    Due.row(x, 0);
    // c shows its START: c at 0
    Due.applies(x, "0", 1, 16);
    Due.is("holds(1)", x.holds(1), 0);
    // a at 1, the PIN of b at 1; b stuck at 1 holds what it reads
    Due.row(x, 2 | 128);
    Due.is("holds(2)", x.holds(2), 2);
    // b is not known but stuck, or the PIN of c is
    Due.row(x, 4 | 8 | 256 | 512);
  }

  private static void detected() {
    Due.of(15, "FAULTS that are DETECTED: how many; the ROW: they, those that are DROPPED.");
    FaultLists x = Due.withNet(AND, 10);
    Due.is("detected()", x.detected(), 0);
    Due.row(x, 0, 0);
    Due.applies(x, "11", 5, 341);
    Due.is("drops(1)", x.drops(1), 0);
    Due.applies(x, "01", 3, 162);
    Due.is("detected()", x.detected(), 8);
    Due.row(x, 503, 162);
    Due.terms("of FAULTS, up to 64, as a long");
    // 64 FAULTS make a long below 0
    // i, j, k are a AND b, l is a XOR b: FAULTS 16 .. 23 of them, 48 .. 63 of their PINS
    FaultLists y = Due.withNet("4;&abc;&abc;&abc;&abc;&ab;&ab;&ab;^ab:lkji", 64);
    long ofAnd = bits(48, 50, 52, 54, 56, 58);
    Due.applies(y, "1111", 14, bits(0, 2, 16, 18, 20, 23, 60, 62) | ofAnd);
    Due.applies(y, "1000", 9, bits(3, 17, 19, 21, 22, 51, 55, 59, 63));
    Due.is("detected()", y.detected(), 23);
    Due.row(y, bits(0, 2, 3, 16, 17, 18, 19, 20, 21, 22, 23, 51, 55, 59, 60, 62, 63) | ofAnd, 0);
  }

  private static void when() {
    Due.of(16, "The TICK at which a FAULT was DETECTED; the ROW: OUTPUTS at which it SHOWED then (LINES, bits). -2: it is not; NONE: none such.");
    FaultLists x = Due.withNet("1;=a;!b:bac", 10);
    Due.is("when(0)", x.when(0), -2);
    Due.is("when(10)", x.when(10), -1);
    Due.is("when(-1)", x.when(-1), -1);
    Due.applies(x, "u", 0, 0);
    Due.applies(x, "10", 10, 1023);
    Due.is("when(0)", x.when(0), 1);
    Due.row(x, 7);
    Due.is("when(2)", x.when(2), 1);
    Due.row(x, 6);
    Due.is("when(5)", x.when(5), 1);
    Due.row(x, 4);
    Due.is("when(6): the PIN of b at 0", x.when(6), 1);
    Due.row(x, 6);
    Due.is("when(8): the PIN of c at 0", x.when(8), 1);
    Due.row(x, 4);
    Due.is("when(1)", x.when(1), 2);
    Due.row(x, 7);
    // the first time counts, with the OUTPUTS of that time
    Due.applies(x, "1", 0, 0);
    Due.is("when(0)", x.when(0), 1);
    Due.is("when(10)", x.when(10), -1);
    Due.row(x, 7);
  }

  private static void sample() {
    Due.of(17, "DETECTED ones by all FAULTS whose number is r modulo k (k 1 .. 8, r 0 .. k - 1), as a fraction in least terms: 0; the ROW: above, below.");
    FaultLists x = Due.withNet(AND, 10);
    Due.is("sample(1, 0)", x.sample(1, 0), 0);
    Due.row(x, 0, 1);
    Due.applies(x, "11", 5, 341);
    int[][] due = {{1, 0, 1, 2}, {2, 0, 1, 1}, {2, 1, 0, 1}, {3, 0, 1, 2}, {3, 1, 1, 3}, {3, 2, 2, 3}, {8, 0, 1, 1}, {8, 7, 0, 1}};
    for (int[] d : due) {
      Due.is("sample(" + d[0] + ", " + d[1] + ")", x.sample(d[0], d[1]), 0);
      Due.row(x, d[2], d[3]);
    }
    Due.is("sample(0, 0)", x.sample(0, 0), -1);
    Due.is("sample(9, 0)", x.sample(9, 0), -1);
    Due.is("sample(-1, 0)", x.sample(-1, 0), -1);
    Due.is("sample(3, 3)", x.sample(3, 3), -1);
    Due.is("sample(3, -1)", x.sample(3, -1), -1);
    Due.row(x, 0, 1);
    FaultLists y = new FaultLists();
    Due.is("sample(3, 2)", y.sample(3, 2), -2);
    Due.is("sample(3, 1)", y.sample(3, 1), 0);
    Due.is("sample(8, 8)", y.sample(8, 8), -1);
    Due.row(y, 0, 1);
  }

  private static void critical() {
    Due.of(18, "LINES that are critical for an OUTPUT (a LINE) now:");
    FaultLists x = Due.withNet(AND, 10);
    Due.is("critical(2)", x.critical(2), -2);
    Due.is("critical(1)", x.critical(1), -1);
    Due.is("critical(3)", x.critical(3), -1);
    Due.is("critical(-1)", x.critical(-1), -1);
    String[] patterns = {"11", "01", "10", "00", "1u", "0u", "uu"};
    int[] due = {7, 5, 6, 4, 0, 4, 0};
    for (int i = 0; i < due.length; i++) {
      Due.text(x, patterns[i]);
      x.applies();
      Due.is("critical(2) by " + patterns[i], x.critical(2), due[i]);
      Due.row(x, Integer.bitCount(due[i]));
    }
    // a turned over turns b over, too, and c stays
    FaultLists y = Due.withNet("1;!a;^ab:cb", 12);
    Due.text(y, "1");
    y.applies();
    Due.is("critical(2)", y.critical(2), 6);
    Due.is("critical(1)", y.critical(1), 3);
    Due.of(18, "by the GOOD one's VALUES of INPUTS, REGISTERS of the latest TICK");
    // a REGISTER's VALUE of the TICK, not what it holds behind it
    FaultLists z = Due.withNet("1;#a0;&ab:c", 12);
    Due.text(z, "1");
    z.applies();
    Due.is("critical(2)", z.critical(2), 6);
    Due.text(z, "1");
    z.applies();
    Due.is("critical(2)", z.critical(2), 7);
    Due.text(z, "0");
    z.applies();
    Due.is("critical(2)", z.critical(2), 5);
  }

  private static void classes() {
    Due.of(19, "FAULTS that are alike, by rules:");
    FaultLists x = Due.withNet(AND, 10);
    Due.is("classes()", x.classes(), 4);
    Due.row(x, 341);
    // an INPUT, a PIN, a LINE: at 0 alike with all, or at 1; the other values pair by pair
    String[] sorts = {"&ab", "nab", "|ab", "rab", "^ab"};
    int[] number = {4, 4, 4, 4, 6};
    long[] largest = {341, 1 | 4 | 32 | 64 | 256, 2 | 8 | 32 | 128 | 512, 2 | 8 | 16 | 128 | 512, 1 | 64};
    for (int i = 0; i < sorts.length; i++) {
      FaultLists y = Due.withNet("2;" + sorts[i] + ":c", 10);
      Due.is("classes() of " + sorts[i], y.classes(), number[i]);
      Due.row(y, largest[i]);
    }
    FaultLists turned = Due.withNet("1;!a:b", 6);
    Due.is("classes()", turned.classes(), 2);
    Due.row(turned, 1 | 8 | 16);
    FaultLists same = Due.withNet("1;=a:b", 6);
    Due.is("classes()", same.classes(), 2);
    Due.row(same, 1 | 4 | 16);
    Due.of(19, "a LINE that just one PIN reads, and that is no OUTPUT, at v, and that PIN at v;");
    // an OUTPUT, and a LINE that two PINS read, are not as their PINS; a REGISTER parts
    FaultLists out = Due.withNet("1;!a:ab", 6);
    Due.is("classes()", out.classes(), 4);
    Due.row(out, 4 | 32);
    FaultLists two = Due.withNet("1;&aa:b", 8);
    Due.is("classes()", two.classes(), 6);
    Due.row(two, 4 | 16 | 64);
    FaultLists register = Due.withNet("1;#a0:b", 6);
    Due.is("classes()", register.classes(), 4);
    Due.row(register, 1 | 16);
  }

  private static void classOf() {
    Due.of(20, "FAULTS of the class of a FAULT: how many; the ROW: they. NONE: none such.");
    FaultLists x = Due.withNet(AND, 10);
    Due.is("classOf(10)", x.classOf(10), -1);
    Due.is("classOf(-1)", x.classOf(-1), -1);
    Due.row(x);
    long[] due = {341, 130, 341, 520, 341, 32, 341, 130, 341, 520};
    for (int f = 0; f < due.length; f++) {
      Due.is("classOf(" + f + ")", x.classOf(f), Long.bitCount(due[f]));
      Due.row(x, due[f]);
    }
    FaultLists most = Due.withNet("4;&abc;&abc;&abc;&abc;&ab;&ab;&ab;&ab:lkji", 64);
    Due.is("classOf(63)", most.classOf(63), 1);
    Due.row(most, Long.MIN_VALUE);
    Due.is("classOf(62)", most.classOf(62), 3);
    Due.row(most, 1L << 62 | 1L << 60 | 1L << 22);
  }

  private static void tests() {
    Due.of(21, "The fewest PATTERNS of 0 and 1, 1 .. 6, at the last of which a FAULT SHOWS, from START on: how many;");
    FaultLists x = Due.withNet(AND, 10);
    Due.is("tests(10)", x.tests(10), -1);
    Due.is("tests(-1)", x.tests(-1), -1);
    int[] rows = {3, 1, 3, 2, 3, 0, 3, 1, 3, 2};
    for (int f = 0; f < rows.length; f++) {
      Due.is("tests(" + f + ")", x.tests(f), 1);
      Due.row(x, rows[f]);
    }
    // the run and dropping are another thing
    Due.is("drops(1)", x.drops(1), 0);
    Due.text(x, "1101");
    x.applies();
    Due.is("tests(1)", x.tests(1), 1);
    Due.row(x, 1);
    FaultLists y = Due.withNet("1;#a;#b;#c:d", 14);
    Due.is("tests(0)", y.tests(0), 4);
    Due.row(y, 1, 0, 0, 0);
    Due.is("tests(7)", y.tests(7), 4);
    Due.row(y, 0, 0, 0, 0);
    Due.of(21, "of as few the least row.");
    // many patterns, of which few lead to other states
    FaultLists wide = Due.withNet("4;#a;#e;#f:g", 20);
    Due.is("tests(0)", wide.tests(0), 4);
    Due.row(wide, 8, 0, 0, 0);
    // another net, another answer
    Due.text(wide, "4;#b0;#e0;#f0:g");
    Due.is("net()", wide.net(), 20);
    Due.is("tests(0)", wide.tests(0), -2);
    Due.is("tests(2)", wide.tests(2), 4);
    Due.row(wide, 4, 0, 0, 0);
    Due.is("tests(13)", wide.tests(13), 1);
    Due.row(wide, 0);
    Due.of(21, "-2: 6 do not do;");
    // a counter of 8: its GATE i is 1 at 7 alone. From 2 on the sixth TICK is at 7, from 1 on the seventh would be
    FaultLists six = Due.withNet("1;#e0;#f1;#h0;!b;^bc;&bc;^dg;&bcd:i", 44);
    Due.is("tests(16)", six.tests(16), 6);
    Due.row(six, 0, 0, 0, 0, 0, 0);
    FaultLists seven = Due.withNet("1;#e1;#f0;#h0;!b;^bc;&bc;^dg;&bcd:i", 44);
    Due.is("tests(16)", seven.tests(16), -2);
    Due.row(seven);
    Due.is("tests(17)", seven.tests(17), 1);
    Due.row(seven, 0);
  }

  private static void hidden() {
    Due.of(22, "FAULTS for which tests() is -2: how many; the ROW: they, those for which tests() is greatest (0 without any), that number (0 without any).");
    FaultLists x = Due.withNet(AND, 10);
    Due.is("hidden()", x.hidden(), 0);
    Due.row(x, 0, 1023, 1);
    FaultLists y = Due.withNet("1;#b:b", 6);
    Due.is("hidden()", y.hidden(), 6);
    Due.row(y, 63, 0, 0);
    FaultLists z = Due.withNet("1;#a0:b", 6);
    Due.is("hidden()", z.hidden(), 0);
    Due.row(z, 0, 55, 2);
    // a OR (a AND b) is a: b, the GATE that it leads to at 0, and their like are never seen
    FaultLists w = Due.withNet("2;&ab;|ac:d", 16);
    Due.is("hidden()", w.hidden(), 7);
    long unseen = bits(2, 3, 4, 8, 10, 11, 14);
    Due.row(w, unseen, 65535 - unseen, 1);
  }

  private static void needless() {
    Due.of(23, "TICKS of THE RUN without each of which, alone, all that are DETECTED would be so");
    FaultLists x = Due.withNet(AND, 10);
    Due.is("needless()", x.needless(), 0);
    Due.row(x, 0);
    Due.text(x, "110110");
    x.applies();
    Due.is("needless()", x.needless(), 0);
    Due.row(x, 0);
    Due.text(x, "0011");
    x.applies();
    Due.is("needless()", x.needless(), 3);
    Due.row(x, 1 | 8 | 16);
    // nothing is detected: every TICK is needless
    FaultLists y = Due.withNet("1;#b:b", 6);
    Due.text(y, "0u1");
    y.applies();
    Due.is("needless()", y.needless(), 3);
    Due.row(y, 7);
    Due.of(23, "(as if DROPPING were off; TICKS behind it come one sooner)");
    // TICKS behind it come one sooner, and dropping is as off: without TICK 1 the 1 of TICK 0 is still seen
    FaultLists z = Due.withNet("1;#a0:b", 6);
    Due.is("drops(1)", z.drops(1), 0);
    Due.text(z, "1000");
    z.applies();
    Due.is("needless()", z.needless(), 3);
    Due.row(z, 14);
  }

  private static void shorter() {
    Due.of(24, "TICKS of THE RUN go, from the latest to the first, each if without it (and those that went) all that are DETECTED would be so");
    FaultLists x = Due.withNet(AND, 10);
    Due.is("shorter()", x.shorter(), 0);
    Due.row(x, 0);
    Due.text(x, "1101001101");
    x.applies();
    // the later ones go: 01 of TICK 4, 11 of TICK 3, 00
    Due.is("shorter()", x.shorter(), 2);
    Due.row(x, 3);
    Due.is("count(6)", x.count(6), 5);
    FaultLists y = Due.withNet("1;#b:b", 6);
    Due.text(y, "0u1");
    y.applies();
    Due.is("shorter()", y.shorter(), 0);
    Due.row(y, 0);
    FaultLists z = Due.withNet("1;#a0:b", 6);
    Due.text(z, "1000");
    z.applies();
    // 1, then 0 (b at 1 is seen at once), then one TICK that sees what a 0 was
    Due.is("shorter()", z.shorter(), 3);
    Due.row(z, 7);
  }

  private static void blames() {
    Due.of(25, "FAULTS by which nothing is otherwise");
    FaultLists x = Due.withNet(AND, 10);
    Due.text(x, "");
    Due.is("blames()", x.blames(), 10);
    Due.row(x, 1023, 1);
    Due.text(x, "0");
    Due.is("blames(): no TICK", x.blames(), -1);
    Due.is("count(9)", x.count(9), 10);
    Due.is("drops(1)", x.drops(1), 0);
    Due.applies(x, "1101", 8, 503);
    String[] seen = {"1", "0", "u0", "01", "10", "00", "uu", "11"};
    long[] due = {682, 341, 861, 0, 682 & 861, 341, 1023, 162};
    int[] good = {1, 0, 1, 0, 1, 0, 1, 0};
    for (int i = 0; i < due.length; i++) {
      Due.text(x, seen[i]);
      Due.is("blames() of " + seen[i], x.blames(), Long.bitCount(due[i]));
      Due.row(x, due[i], good[i]);
      Due.is("count(9)", x.count(9), Long.bitCount(due[i]));
      Due.is("count(12)", x.count(12), 0);
    }
    Due.text(x, "101");
    Due.is("blames(): a TICK that there was not", x.blames(), -3);
    Due.text(x, "1x");
    Due.is("blames()", x.blames(), -2);
    Due.is("count(9)", x.count(9), 3);
    Due.is("count(12)", x.count(12), 0);
    Due.row(x, 162, 0);
    Due.of(25, "THE TEXT tells what was seen at the OUTPUTS, in their order, TICK by TICK of THE RUN");
    // OUTPUTS in their order: b ahead of a
    FaultLists y = Due.withNet("2:ba", 4);
    Due.applies(y, "10", 2, 1 | 8);
    Due.text(y, "0");
    Due.is("blames(): the end within a TICK", y.blames(), -2);
    Due.text(y, "01");
    Due.is("blames()", y.blames(), 2);
    Due.row(y, 2 | 4, 1);
    Due.text(y, "11");
    Due.is("blames()", y.blames(), 1);
    Due.row(y, 8, 0);
    Due.of(25, "(no 0 was seen where it is 1, no 1 where it is 0;");
    // what is not known is not otherwise
    FaultLists z = Due.withNet("1;#a:b", 6);
    Due.text(z, "1");
    z.applies();
    Due.text(z, "0");
    Due.is("blames()", z.blames(), 5);
    Due.row(z, 63 - 8, 1);
  }

  private static void suspects(FaultLists x, String seen, int best, long most) {
    Due.text(x, seen);
    x.blames();
    Due.is("parts() behind " + seen, x.parts(), best);
    Due.row(x, most);
  }

  private static void parts() {
    Due.of(26, "The PATTERN of 0 and 1 (as a number) by which THE SUSPECTS");
    FaultLists x = Due.withNet(AND, 10);
    Due.is("parts()", x.parts(), -2);
    suspects(x, "", 3, 5);
    Due.is("drops(1)", x.drops(1), 0);
    Due.applies(x, "11", 5, 341);
    suspects(x, "0", 0, 5);
    suspects(x, "1", 1, 3);
    // the run goes on, the suspects stay
    Due.applies(x, "01", 3, 162);
    Due.is("parts()", x.parts(), 1);
    Due.row(x, 3);
    Due.is("count(6)", x.count(6), 2);
    Due.text(x, "01");
    Due.is("blames()", x.blames(), 0);
    Due.is("parts()", x.parts(), -2);
    Due.row(x, 0, 0);
    Due.of(26, "-2: there are fewer than two.");
    // behind 24 TICKS, too; one suspect is too few
    FaultLists y = Due.withNet("2:ab", 4);
    Due.text(y, "111111111111111111111111111111111111111111111111");
    y.applies();
    suspects(y, "", 0, 2);
    Due.text(y, "01");
    Due.is("blames()", y.blames(), 1);
    Due.is("parts()", y.parts(), -2);
    suspects(y, "11", 0, 1);
    Due.is("begins()", y.begins(), 24);
    Due.is("parts()", y.parts(), -2);
    Due.of(26, "part best behind THE RUN, one TICK more");
    // what REGISTERS hold behind the run counts: b is 1 by the good one
    FaultLists z = Due.withNet("1;#a0:b", 6);
    Due.text(z, "1");
    z.applies();
    suspects(z, "", 0, 3);
    // b is turned over at each TICK: asked again it is the same
    FaultLists w = Due.withNet("1;#c0;^ab:b", 12);
    Due.text(w, "1");
    w.applies();
    suspects(w, "", 0, 6);
    Due.is("parts()", w.parts(), 0);
    Due.row(w, 6);
  }

  private static void drawn() {
    Due.of(27, "n (1 .. 24) PATTERNS of a seed, from START on:");
    // of seed 1: 16838, 5758, 10113, 17515, 31051, 5627, 23010, 7419, 16212, 4086
    FaultLists x = Due.withNet(AND, 10);
    Due.is("drawn(1, 0)", x.drawn(1, 0), -1);
    Due.is("drawn(1, 25)", x.drawn(1, 25), -1);
    Due.is("drawn(1, -1)", x.drawn(1, -1), -1);
    Due.row(x);
    Due.applies(x, "11", 5, 341);
    int[] number = {1, 6, 6, 8, 8};
    long[] faults = {32, 373, 373, 503, 503};
    int[] last = {0, 1, 1, 3, 3};
    for (int n = 1; n <= 5; n++) {
      Due.is("drawn(1, " + n + ")", x.drawn(1, n), number[n - 1]);
      Due.row(x, faults[n - 1], last[n - 1]);
    }
    Due.is("count(6)", x.count(6), 1);
    Due.is("drawn(1, 24)", x.drawn(1, 24), 10);
    Due.of(27, "(R without sign, by 65536) % n.");
    // without sign: -1 draws 48697
    FaultLists y = new FaultLists();
    Due.is("drawn(-1, 1)", y.drawn(-1, 1), 1);
    Due.row(y, 1, 0);
    FaultLists z = Due.withNet("1;#b:b", 6);
    Due.is("drawn(7, 24)", z.drawn(7, 24), 0);
    Due.row(z, 0, -1);
  }

  private static void keepAndAgain() {
    Due.of(28, "THE NET, THE RUN, DROPPING, THE SUSPECTS are kept under a number 0 .. 1: true. Refused: others.");
    FaultLists x = Due.withNet(AND, 10);
    Due.is("keep(2)", x.keep(2), false);
    Due.is("keep(-1)", x.keep(-1), false);
    Due.is("again(0)", x.again(0), false);
    Due.is("drops(1)", x.drops(1), 0);
    Due.applies(x, "11", 5, 341);
    Due.text(x, "0");
    Due.is("blames()", x.blames(), 5);
    Due.is("keep(1)", x.keep(1), true);
    Due.is("again(0)", x.again(0), false);
    Due.is("again(2)", x.again(2), false);
    Due.text(x, "1;#a0:b");
    Due.is("net()", x.net(), 6);
    Due.text(x, "10");
    x.applies();
    Due.is("keep(0)", x.keep(0), true);
    Due.text(x, "01");
    Due.row(x, 1 | 4 | 8 | 16);
    Due.is("again(1)", x.again(1), true);
    // THE TEXT and the ROW are not kept
    Due.is("count(12)", x.count(12), 2);
    Due.row(x, 29);
    Due.is("count(0)", x.count(0), 3);
    Due.is("count(6)", x.count(6), 1);
    Due.is("count(8)", x.count(8), 1);
    Due.is("count(9)", x.count(9), 5);
    Due.is("value(2)", x.value(2), 1);
    Due.row(x, 341, 0);
    Due.is("detected()", x.detected(), 5);
    Due.row(x, 341, 341);
    Due.is("applies()", x.applies(), 3);
    Due.row(x, 162);
    Due.is("begins()", x.begins(), 2);
    Due.of(29, "They are as they were kept under a number. Refused: nothing kept.");
    // what was kept stays as it was
    Due.is("again(1)", x.again(1), true);
    Due.is("count(6)", x.count(6), 1);
    Due.is("when(0)", x.when(0), 0);
    Due.row(x, 4);
    Due.is("again(0)", x.again(0), true);
    Due.is("count(8)", x.count(8), 0);
    Due.is("count(9)", x.count(9), 0);
    Due.is("holds(1)", x.holds(1), 0);
    Due.row(x, 2 | 32);
    Due.is("keep(1)", x.keep(1), true);
    Due.is("begins()", x.begins(), 2);
    Due.is("again(1)", x.again(1), true);
    Due.is("count(0)", x.count(0), 2);
    Due.is("count(6)", x.count(6), 2);
  }

  private static void count() {
    Due.of(30, "What 0: LINES, 1: INPUTS, 2: REGISTERS, 3: PINS, 4: OUTPUTS, 5: FAULTS, 6: TICKS of THE RUN,");
    FaultLists x = Due.withNet("2;&ab;#c;#d1:dc", 2 * (5 + 4));
    Due.is("drops(1)", x.drops(1), 0);
    Due.text(x, "11");
    x.applies();
    Due.text(x, "");
    x.blames();
    Due.text(x, "01u");
    // LISTS: of a 1, of b 1, of c 5; of d (not known) none; of e 1
    int[] due = {5, 2, 2, 4, 2, 18, 1, 5, 1, 18, 8, 2, 3};
    for (int i = 0; i < due.length; i++) Due.is("count(" + i + ")", x.count(i), due[i]);
    Due.is("count(13)", x.count(13), -1);
    Due.is("count(-1)", x.count(-1), -1);
    Due.is("count(max)", x.count(Integer.MAX_VALUE), -1);
  }

  private static void row() {
    Due.of(31, "Number i of the ROW. NoSuchElementException: none such.");
    FaultLists x = new FaultLists();
    Due.row(x);
    Due.is("sample(1, 0)", x.sample(1, 0), 0);
    Due.row(x, 0, 1);
    Due.terms("the ROW stays with each answer below 0.");
    // it stays with each answer below 0, and with calls that tell none
    Due.is("sample(9, 0)", x.sample(9, 0), -1);
    Due.is("when(0)", x.when(0), -2);
    Due.is("drops(1)", x.drops(1), 0);
    Due.is("keep(0)", x.keep(0), true);
    Due.text(x, "x");
    Due.is("applies()", x.applies(), -1);
    Due.text(x, "x");
    Due.is("would()", x.would(), -1);
    Due.text(x, "x");
    Due.is("net()", x.net(), -1);
    Due.text(x, "2:ba");
    Due.is("net()", x.net(), 4);
    Due.row(x, 0, 1);
    Due.thrown("row(2)", () -> x.row(2));
    Due.thrown("row(max)", () -> x.row(Integer.MAX_VALUE));
    Due.thrown("row(min)", () -> x.row(Integer.MIN_VALUE));
    Due.is("hidden()", x.hidden(), 0);
    Due.row(x, 0, 15, 1);
  }
}
