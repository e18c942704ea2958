/** The edges that the document names of a new object, of THE TEXT and of THE NET: promises 1 to 7. */
final class NetEdges {
  private static final String AND = "2;&ab:c";
  /** 4 INPUTS, 12 LINES, 20 PINS, 4 OUTPUTS: 64 FAULTS. */
  private static final String FULL = "4;&abc;&abc;&abc;&abc;&ab;&ab;&ab;&ab:lkji";
  /** 4 INPUTS, 6 GATES, 18 PINS: 31 signs, behind which the ones come that are too many. */
  private static final String TEN = "4;&abc;&abc;&abc;&abc;&abc;&abc";

  private NetEdges() {}

  static void all() {
    lines();
    pins();
    gates();
    grammar();
    aNewObject();
    sign();
    signBytes();
    end();
    net();
    netBeginsAnew();
    netSmaller();
    noRoom();
    noName();
    endsTooEarly();
    noSuchLine();
    netStays();
    cause();
    causeNumbers();
    causeOfLines();
    causeOrder();
    causeNone();
    line();
    lineNone();
    pin();
  }

  private static String times(String part, int n) { return part.repeat(n); }

  private static void lines() {
    Due.terms("LINES a .. l (numbers 0 .. 11): INPUTS (1 to 4 of them, first), then GATES and REGISTERS (at most 3), as they are told;");
    FaultLists x = Due.withNet("1" + times(";=a", 8) + ";#l;#a;#k:al", 46);
    Due.is("count(0)", x.count(0), 12);
    Due.is("pin(8) reads l", x.pin(8), 11);
    Due.is("line(11, 4)", x.line(11, 4), 1);
    Due.is("line(0, 4)", x.line(0, 4), 1);
    for (int n = 1; n <= 4; n++) {
      FaultLists y = Due.withNet(n + ";!a:a", 2 * (n + 1 + 1));
      Due.is("count(1)", y.count(1), n);
      Due.is("line(n - 1, 0) is an INPUT", y.line(n - 1, 0), 0);
      Due.is("line(n, 0) is a GATE", y.line(n, 0), 1);
    }
    Due.is("count(2)", Due.withNet("1;#a;#a;#a:a", 14).count(2), 3);
    Refusals.refused("0:a", -1);
    Refusals.refused("5:a", -1);
    Refusals.refused("1;#a;#a;#a;#a:a", -12);
    Due.terms("VALUES of a LINE: 0, 1, or 2 (not known).");
    String[] told = {"0", "1", "u"};
    for (int v = 0; v <= 2; v++) {
      FaultLists y = new FaultLists();
      Due.text(y, told[v]);
      y.applies();
      Due.is("value(0)", y.value(0), v);
    }
  }

  private static void pins() {
    Due.terms("A GATE has 1 to 3 PINS, each of which reads a LINE told ahead of it;");
    FaultLists x = Due.withNet("1;!a;&ab;|abc:d", 20);
    for (int k = 1; k <= 3; k++) Due.is("line(" + k + ", 1)", x.line(k, 1), k);
    Due.is("pin(5) reads the LINE just ahead", x.pin(5), 2);
    Refusals.refused("1;!a;!c:a", -7);
    Refusals.refused("1;!a;&bc:a", -8);
    Refusals.refused("1;!a;&abc:a", -9);
    Due.terms("a REGISTER has one PIN, that reads any LINE, and a START 0, 1, or 2.");
    FaultLists y = Due.withNet("1;#b0;#d1;#a;!a:a", 18);
    int[] reads = {1, 3, 0};
    for (int i = 0; i < 3; i++) {
      Due.is("line, 1", y.line(1 + i, 1), 1);
      Due.is("line, 3", y.line(1 + i, 3), i);
      Due.is("pin(" + i + ")", y.pin(i), reads[i]);
    }
    Due.terms("PINS are numbered 0, 1, .. as they are told, through all LINES (at most 20).");
    FaultLists z = Due.withNet(FULL, 64);
    Due.is("line(11, 2)", z.line(11, 2), 18);
    Due.is("pin(0)", z.pin(0), 0);
    Due.is("pin(18)", z.pin(18), 0);
    Due.is("pin(19)", z.pin(19), 1);
    Refusals.refused(TEN + ";&ab;!a:a", -38);
    Due.terms("OUTPUTS: 1 to 4 of the LINES.");
    String[] outs = {"d", "db", "dba", "dbac"};
    for (int i = 0; i < 4; i++) Due.is("count(4)", Due.withNet("4:" + outs[i], 8).count(4), i + 1);
    Refusals.refused("4:", -3);
    Refusals.refused("4;!a:dbace", -10);
  }

  /** What the document says of a GATE, by how many PINS read 0, 1 and what is not known. */
  private static int gate(char sign, int zeros, int ones, int unknown) {
    switch (sign) {
      case '&': case '=': return zeros > 0 ? 0 : unknown > 0 ? 2 : 1;
      case '|': return ones > 0 ? 1 : unknown > 0 ? 2 : 0;
      case '^': return unknown > 0 ? 2 : ones % 2;
      default:
        int v = gate(sign == 'r' ? '|' : '&', zeros, ones, unknown);
        return v == 2 ? 2 : 1 - v;
    }
  }

  private static void gateByAll(char sign, int width) {
    FaultLists x = Due.withNet(width + ";" + sign + "abc".substring(0, width) + ":" + (char) ('a' + width), 4 * width + 2);
    int all = width == 1 ? 3 : width == 2 ? 9 : 27;
    for (int i = 0; i < all; i++) {
      String pattern = "";
      int[] number = new int[3];
      for (int k = 0, rest = i; k < width; k++, rest /= 3) {
        pattern += "01u".charAt(rest % 3);
        number[rest % 3]++;
      }
      if (i == 14) x.begins();
      Due.text(x, pattern);
      x.applies();
      Due.is(sign + " by " + pattern, x.value(width), gate(sign, number[0], number[1], number[2]));
    }
  }

  private static void gates() {
    Due.terms("GATES: ! (not) and = (the same) with 1 PIN; &, |, ^, n (not &), r (not |) with 2 or 3:");
    for (char sign : "!=".toCharArray()) gateByAll(sign, 1);
    for (char sign : "nr".toCharArray()) for (int width = 2; width <= 3; width++) gateByAll(sign, width);
    for (char sign : "&|^nr".toCharArray()) {
      Refusals.refused("1;" + sign + "a:a", -5);
      Refusals.refused("1;" + sign + "aaaa:a", -7);
    }
    for (char sign : "!=".toCharArray()) {
      Refusals.refused("1;" + sign + ":a", -4);
      Refusals.refused("1;" + sign + "aa:a", -5);
    }
    Due.terms("& is 0, if one PIN reads 0, 1 if all read 1, else 2;");
    for (int width = 2; width <= 3; width++) gateByAll('&', width);
    Due.terms("| is 1, if one reads 1, 0 if all read 0, else 2;");
    for (int width = 2; width <= 3; width++) gateByAll('|', width);
    Due.terms("^ is 2, if one reads 2, else whether an odd number of them reads 1;");
    for (int width = 2; width <= 3; width++) gateByAll('^', width);
    Due.terms("not 2 is 2.");
    FaultLists x = Due.withNet("1;!a;naa;raa:bcd", 18);
    Due.text(x, "u");
    x.applies();
    for (int k = 1; k <= 3; k++) Due.is("value(" + k + ")", x.value(k), 2);
  }

  private static void grammar() {
    Due.terms("THE NET is a text (at first 1:a): a digit 1 .. 4 (INPUTS);");
    Due.withNet("1:a", 2);
    Due.withNet("4:d", 8);
    for (String first : new String[] {"/", "0", "5", "9", ":", "a", ";"}) Refusals.refused(first + ":a", -1);
    Due.terms("then, each behind a ;, GATES (its sign, the letters that its PINS read) and REGISTERS (#, a letter, and, if wanted, 0 or 1: its START, else 2);");
    FaultLists x = Due.withNet("1;=a;#b0;#b1;#b:a", 18);
    for (int k = 2; k <= 4; k++) Due.is("line(" + k + ", 3)", x.line(k, 3), k - 2);
    Refusals.refused("1=a:a", -2);
    Refusals.refused("1;=a=a:a", -5);
    Refusals.refused("1;;=a:a", -3);
    Refusals.refused("1;#a2:a", -5);
    Refusals.refused("1;#au:a", -5);
    Refusals.refused("1;#a00:a", -6);
    Due.terms("then : and letters of OUTPUTS, all unlike.");
    Due.withNet("4:abcd", 8);
    Refusals.refused("4a", -2);
    Refusals.refused("4::a", -3);
    Refusals.refused("4:aa", -4);
    Refusals.refused("4:aba", -5);
    Refusals.refused("4:abca", -6);
  }

  private static void aNewObject() {
    Due.of(1, "THE NET 1:a; no TICK yet.");
    FaultLists x = new FaultLists();
    int[] counts = {1, 1, 0, 0, 1, 2, 0, 0, 0, 0, 0, 0, 0};
    for (int i = 0; i < counts.length; i++) Due.is("count(" + i + ")", x.count(i), counts[i]);
    int[] line = {0, 0, -1, -1, 1, 0};
    for (int i = 0; i < line.length; i++) Due.is("line(0, " + i + ")", x.line(0, i), line[i]);
    Due.is("value(0)", x.value(0), -2);
    Due.is("faulty(0, 0)", x.faulty(0, 0), -2);
    Due.is("critical(0)", x.critical(0), -2);
    Due.is("when(0)", x.when(0), -2);
    Due.is("drops(0)", x.drops(0), -2);
    Due.is("parts()", x.parts(), -2);
    Due.is("begins()", x.begins(), 0);
    Due.row(x);
    FaultLists told = Due.withNet("1:a", 2);
    Due.is("as one that was told 1:a", Picture.of(new FaultLists()).equals(Picture.of(told)), true);
  }

  private static void sign() {
    Due.of(2, "Four signs come behind THE TEXT, of v the highest byte first: how many it has.");
    FaultLists x = new FaultLists();
    for (int i = 1; i <= 20; i++) Due.is("sign", x.sign(0x30313075), 4 * i);
    Due.is("end(24)", x.end(24), true);
    // 0, 1, 0, u six times: the latest is not known
    Due.is("applies()", x.applies(), 2);
    Due.is("value(0)", x.value(0), 2);
    Due.is("when(1)", x.when(1), 0);
    Due.is("when(0)", x.when(0), 1);
    Due.of(2, "Refused: there would be more than 80.");
    FaultLists y = new FaultLists();
    for (int i = 1; i <= 20; i++) Due.is("sign", y.sign(0x30303030), 4 * i);
    int[] left = {80, 79, 78, 77};
    for (int n : left) {
      Due.is("end(" + n + ")", y.end(n), true);
      Due.is("sign behind " + n, y.sign(0x31313131), -1);
      Due.is("count(12)", y.count(12), n);
    }
    Due.is("end(76)", y.end(76), true);
    Due.is("sign behind 76", y.sign(0x31313131), 80);
    Due.is("sign behind 80", y.sign(0), -1);
    // what was refused is not there: 24 TICKS of 0 alone
    Due.is("end(24)", y.end(24), true);
    Due.is("applies()", y.applies(), 1);
  }

  private static void signBytes() {
    Due.of(2, "of v the highest byte first");
    // a byte with its highest bit set is a sign of its own, and spoils none of the others
    int[] spoiled = {0xB0303030, 0x30B03030, 0x3030B030, 0x303030B0};
    for (int i = 0; i < 4; i++) {
      FaultLists x = new FaultLists();
      x.sign(spoiled[i]);
      Due.is("applies() with the sign 176 at " + i, x.applies(), -1 - i);
      x.sign(spoiled[i]);
      Due.is("end(" + i + ")", x.end(i), true);
      Due.is("applies() of what is ahead of it", x.applies(), i == 0 ? 0 : 1);
      Due.is("count(6)", x.count(6), i);
    }
    int[] none = {Integer.MIN_VALUE, -1, 0, Integer.MAX_VALUE};
    for (int v : none) {
      FaultLists x = new FaultLists();
      Due.is("sign(" + v + ")", x.sign(v), 4);
      Due.is("applies() of sign(" + v + ")", x.applies(), -1);
    }
  }

  private static void end() {
    Due.of(3, "THE TEXT has its first n signs alone: true;");
    FaultLists x = new FaultLists();
    Due.is("end(0) of none", x.end(0), true);
    for (int i = 1; i <= 20; i++) x.sign(i == 1 ? 0x30317878 : 0x78787878);
    int[] kept = {80, 80, 79, 3, 2, 2};
    for (int n : kept) {
      Due.is("end(" + n + ")", x.end(n), true);
      Due.is("count(12)", x.count(12), n);
    }
    Due.is("applies() of 01", x.applies(), 2);
    Due.is("value(0)", x.value(0), 1);
    Due.of(3, "false if it has not so many, or n is below 0.");
    for (int signs = 0; signs <= 80; signs += 40) {
      FaultLists y = new FaultLists();
      for (int i = 0; i < signs; i += 4) y.sign(0x30303030);
      for (int n : Due.outside(signs + 1)) {
        Due.is("end(" + n + ") of " + signs, y.end(n), false);
        Due.is("count(12)", y.count(12), signs);
      }
    }
  }

  private static void net() {
    Due.of(4, "THE TEXT is THE NET: how many FAULTS there are;");
    Due.withNet("1:a", 2);
    Due.is("count(12): THE TEXT was read", Due.withNet(FULL, 64).count(12), 0);
    // the longest one that there can be has 51 signs: 11 LINES, 3 STARTS, 20 PINS, 4 OUTPUTS
    String longest = "1;#a0;#b1;#c1" + times(";&ab", 7) + ";&abc:lcba";
    Due.withNet(longest, 64);
    Refusals.refused(longest + times("d", 29), -52);
    Due.of(4, "-1 - p: the sign at p can't stand there");
    String most = "4;!a;=b;&abc;|abc;^ab;nab;rab;#l1:abcd";
    Due.withNet(most, 54);
    int[] signs = {0, ' ', '3' + 128, 255, 'A', '~'};
    for (int p = 0; p < most.length(); p++) {
      String spoiled = most.substring(0, p) + (char) signs[p % signs.length] + most.substring(p + 1);
      Refusals.refused(spoiled, -1 - p);
    }
    Refusals.refused(most + ";", -1 - most.length());
  }

  private static void netBeginsAnew() {
    Due.of(4, "THE RUN begins anew, DROPPING is off.");
    FaultLists x = Due.withNet("1;#a0:b", 6);
    x.drops(1);
    Due.applies(x, "11", 4, 29);
    Due.text(x, "");
    Due.is("blames()", x.blames(), 6);
    // the same net again: what is held is START, nothing is DETECTED or DROPPED or suspected
    Due.text(x, "1;#a0:b");
    Due.is("net()", x.net(), 6);
    for (int what = 6; what <= 10; what++) Due.is("count(" + what + ")", x.count(what), 0);
    Due.is("drops(0)", x.drops(0), -2);
    Due.is("holds(1)", x.holds(1), 0);
    Due.row(x, 0);
    Due.is("detected()", x.detected(), 0);
    Due.row(x, 0, 0);
    Due.is("value(0)", x.value(0), -2);
    Due.is("when(0)", x.when(0), -2);
    Due.is("drops(1): DROPPED so far", x.drops(1), 0);
    Due.applies(x, "00", 3, 8 | 2 | 32);
  }

  /** A smaller net behind the largest one: it answers as one that was told at first. */
  private static void netSmaller() {
    Due.of(4, "THE TEXT is THE NET");
    String[] large = {"4;^ab;^bc;^cd;^da;^efg;^fgh;^ghe;^hef:ijkl", "1;#k0;#l1;#a;&abc;!e;=f;!g;=h;!i;=j;!k:lkji"};
    String[] small = {"1:a", "1;#a:b", "2;|ab;#c1:dc", "3;&ab;^cd:e"};
    for (String first : large) {
      for (String then : small) {
        FaultLists x = asked(first);
        Due.text(x, then);
        x.net();
        FaultLists y = new FaultLists();
        Due.text(y, then);
        y.net();
        int inputs = y.count(1);
        Due.is("count(1)", x.count(1), inputs);
        for (FaultLists z : new FaultLists[] {x, y}) {
          Due.text(z, "011100101110".substring(0, 3 * inputs));
          z.applies();
          Due.text(z, "");
          z.blames();
          z.hidden();
        }
        same(x, y);
        Due.is(then + " behind " + first, Picture.of(x).equals(Picture.of(y)), true);
      }
    }
  }

  private static FaultLists asked(String net) {
    FaultLists x = new FaultLists();
    Due.text(x, net);
    Due.is("net() of " + net, x.net() > 40, true);
    Due.text(x, "000011110101");
    Due.is("applies()", x.applies() >= 0, true);
    x.hidden();
    x.classes();
    x.parts();
    return x;
  }

  private static void same(FaultLists x, FaultLists y) {
    for (int f = 0; f < y.count(5); f++) {
      Due.is("tests(" + f + ")", x.tests(f), y.tests(f));
      Due.is("classOf(" + f + ")", x.classOf(f), y.classOf(f));
    }
    Due.is("classes()", x.classes(), y.classes());
    Due.is("hidden()", x.hidden(), y.hidden());
    for (int i = 0; i < 3; i++) Due.is("row(" + i + ")", x.row(i), y.row(i));
  }

  private static void noRoom() {
    Due.of(4, "(a fourth REGISTER, a LINE more than 12: its first sign;");
    Due.withNet("1;#a;#a;#a:a", 14);
    Refusals.refused("1;#a;#a;#a;#a:a", -12);
    Refusals.refused("1;#a;#a;#a;#", -12);
    Refusals.refused("1;#a;#a;#a;!a;#x", -15);
    Due.withNet("1" + times(";!a", 11) + ":l", 46);
    Refusals.refused("1" + times(";!a", 12) + ":l", -36);
    Refusals.refused("1" + times(";!a", 11) + ";#", -36);
    Due.withNet("4" + times(";!a", 8) + ":l", 40);
    Refusals.refused("4" + times(";!a", 9) + ":l", -27);
    // both at once: one sign
    Refusals.refused("1" + times(";!a", 8) + ";#a;#a;#a;#a:l", -36);
    Due.of(4, "a letter by which there would be 21 PINS;");
    Due.withNet(TEN + ";&aa:a", 62);
    Refusals.refused(TEN + ";&aaa:a", -36);
    Due.withNet(TEN + ";=a;!a:a", 64);
    Refusals.refused(TEN + ";=a;&aa:a", -38);
    Refusals.refused(TEN + ";&aa;=a:a", -38);
    Refusals.refused(TEN + ";&aa;#a:a", -38);
    Refusals.refused(TEN + ";&aa;|aa:a", -38);
    Due.of(4, "a fifth OUTPUT;");
    Due.withNet("4;!a:abcd", 12);
    Refusals.refused("4;!a:abcde", -10);
    Refusals.refused("4;!a:ebcda", -10);
  }

  private static void noName() {
    Due.of(4, "a letter of a LINE that is not told ahead;");
    Due.withNet("1;!a;!b:c", 10);
    Refusals.refused("1;!b:a", -4);
    Refusals.refused("1;!a;!c:a", -7);
    Refusals.refused("1;!l:a", -4);
    Refusals.refused("1;&ba:a", -4);
    Refusals.refused("1;&ab:a", -5);
    Refusals.refused("1;&aab:a", -6);
    Refusals.refused("1;#a;!c:a", -7);
    // LINE 11 can read k, not itself
    Due.withNet("1" + times(";!a", 10) + ";!k:l", 46);
    Refusals.refused("1" + times(";!a", 10) + ";!l:l", -34);
    Due.of(4, "an OUTPUT that is no LINE, or told;");
    Due.withNet("1;!a:b", 6);
    Refusals.refused("1;!a:c", -6);
    Refusals.refused("1;!a:l", -6);
    Refusals.refused("1;!a:m", -6);
    Refusals.refused("1;!a:bc", -7);
    Refusals.refused("1" + times(";!a", 10) + ":l", -33);
    Refusals.refused("1;!a:bb", -7);
    Refusals.refused("1;!a:bab", -8);
    Refusals.refused("4:abcc", -6);
    Refusals.refused("4:abca", -6);
  }

  private static void endsTooEarly() {
    Due.of(4, "the end, if it ends too early);");
    String whole = "2;!a;&ab;|abc;#f1;#a:fb";
    Due.withNet(whole, 30);
    int behindColon = whole.indexOf(':') + 2;
    for (int n = 0; n < behindColon; n++) Refusals.refused(whole.substring(0, n), -1 - n);
    Due.withNet(whole.substring(0, behindColon), 30);
  }

  private static void noSuchLine() {
    Due.of(4, "-200: a REGISTER's PIN reads a LINE that there is not (asked behind all signs).");
    Due.withNet("1;#b:a", 6);
    Refusals.refused("1;#c:a", -200);
    Due.withNet("1;#c;!a:a", 10);
    Refusals.refused("1;#d;!a:a", -200);
    Refusals.refused("1;!a;#d1:a", -200);
    Refusals.refused("1;#l:a", -200);
    Refusals.refused("1" + times(";!a", 9) + ";#l:a", -200);
    Due.withNet("1" + times(";!a", 10) + ";#l:a", 46);
    // any sign that can't stand comes ahead of it, the end, too
    Refusals.refused("1;#c", -5);
    Refusals.refused("1;#c:", -6);
    Refusals.refused("1;#c:c", -6);
    Refusals.refused("1;#c:aa", -7);
    Refusals.refused("1;#c;#c;#c;#c:a", -12);
  }

  private static void netStays() {
    Due.of(4, "THE NET stays then.");
    String[] refused = {"", "x", "4;!a;&abc:abcdz", "1;#a;#a;#a;#a:a", "3;|abc;^abc;#l1:dc"};
    for (String text : refused) {
      // both were refused the like before, so that the chain is the same
      FaultLists x = States.busy(text);
      Due.text(x, text);
      Due.is("net() of " + text, x.net() < 0, true);
      FaultLists y = States.busy(text);
      Due.is("end(0)", y.end(0), true);
      Due.is("all but THE TEXT is as it was behind " + text, Picture.of(x).equals(Picture.of(y)), true);
    }
  }

  private static void cause() {
    Due.of(5, "Why the latest net() was refused, as a chain: k 0: the NET itself, 1 what is behind it (its cause), and so on;");
    Refusals.chain("2;!c", -4, 1, 2, 2, 2, 5, 2, 3, 3);
    FaultLists x = new FaultLists();
    Due.text(x, "2;!c");
    x.net();
    Due.text(x, "4;");
    Due.is("net()", x.net(), -3);
    // the latest one alone: a shorter chain has nothing of the one before
    int[] due = {1, 4, 3, 2, -1, -1, -1, -1};
    for (int i = 0; i < due.length; i++) Due.is("cause(" + i / 2 + ", " + i % 2 + ")", x.cause(i / 2, i % 2), due[i]);
    Due.of(5, "of each, what 0: its kind: 1 a NET, 2 a LINE that was told, 3 a sign that can't stand, 4 no room (a LINE, REGISTER, PIN, OUTPUT too many), 5 a name (a letter of no LINE, or told);");
    Refusals.chain("", -1, 1, 0, 3, 0);
    Refusals.chainAt("1" + times(";!a", 11) + ";", "!a:a", 1, 12, 2, 12, 4, 35);
    Refusals.chainAt("1;#a;#a;#a;", "#a:a", 1, 4, 2, 4, 4, 11);
    Refusals.chainAt(TEN + ";&ab;!", "a:a", 1, 11, 2, 11, 4, 37);
    Refusals.chainAt("4;!a:abcd", "e", 1, 5, 4, 9);
    Refusals.chainAt("4:", "e", 1, 4, 5, 4, 3, 2);
    Refusals.chainAt("4:a", "a", 1, 4, 5, 0, 3, 3);
  }

  private static void causeNumbers() {
    Due.of(5, "what 1: of 1 how many LINES were right ahead of it,");
    Refusals.chainAt("", "5", 1, 0, 3, 0);
    Refusals.chainAt("1", "", 1, 1, 3, 1);
    Refusals.chainAt("4;", "", 1, 4, 3, 2);
    Refusals.chainAt("1;!a", "", 1, 2, 3, 4);
    Refusals.chainAt("1" + times(";!a", 11), "a", 1, 12, 3, 34);
    Refusals.chainAt("1" + times(";!a", 11) + ":", "", 1, 12, 3, 35);
    Due.of(5, "of 2 the number of the LINE,");
    Refusals.chainAt("1;!", "0", 1, 1, 2, 1, 3, 3);
    Refusals.chainAt("1" + times(";!a", 10) + ";!", "", 1, 11, 2, 11, 3, 33);
    Refusals.chainAt("4" + times(";!a", 8) + ";", "#", 1, 12, 2, 12, 4, 26);
    Due.of(5, "of 3, 4 the place of the sign,");
    Refusals.chainAt("", ":", 1, 0, 3, 0);
    String longest = "1;#a0;#b1;#c1" + times(";&ab", 7) + ";&abc:lcba";
    Refusals.chainAt(longest, times("d", 29), 1, 12, 4, 51);
    Refusals.chainAt(longest, times("0", 29), 1, 12, 3, 51);
    Due.of(5, "of 5 the LINE that the letter means (0 .. 11).");
    Refusals.chainAt("1:a", "a", 1, 1, 5, 0, 3, 3);
    Refusals.chainAt("1:", "l", 1, 1, 5, 11, 3, 2);
    // m, n, r, z mean none of 0 .. 11
    for (char c : "mnrz".toCharArray()) {
      Refusals.chainAt("1:", "" + c, 1, 1, 3, 2);
      Refusals.chainAt("1;!", "" + c, 1, 1, 2, 1, 3, 3);
      Refusals.chainAt("1;#", "" + c, 1, 1, 2, 1, 3, 3);
      Refusals.chainAt("1;&aa", "" + c, 1, 2, 3, 5);
      Refusals.chainAt("1:a", "" + c, 1, 1, 3, 3);
    }
  }

  private static void causeOfLines() {
    Due.of(5, "Behind 1 there is 2, if a GATE or REGISTER was being told (its first sign is one of theirs;");
    for (char sign : "!=&|^nr#".toCharArray()) Refusals.chainAt("2;" + sign, "", 1, 2, 2, 2, 3, 3);
    Refusals.chainAt("2;", "a", 1, 2, 3, 2);
    Refusals.chainAt("2;", "N", 1, 2, 3, 2);
    Due.of(5, "a letter that it must have does not stand there,");
    Refusals.chainAt("2;=", "0", 1, 2, 2, 2, 3, 3);
    Refusals.chainAt("2;#", "0", 1, 2, 2, 2, 3, 3);
    Refusals.chainAt("2;^", ":a", 1, 2, 2, 2, 3, 3);
    Refusals.chainAt("2;^a", ":a", 1, 2, 2, 2, 3, 4);
    Refusals.chainAt("2;^a", "m:a", 1, 2, 2, 2, 3, 4);
    Due.of(5, "or one of its letters, a third one, too, means no LINE told ahead,");
    Refusals.chainAt("2;!", "c:a", 1, 2, 2, 2, 5, 2, 3, 3);
    Refusals.chainAt("2;&", "ca:a", 1, 2, 2, 2, 5, 2, 3, 3);
    Refusals.chainAt("2;&a", "c:a", 1, 2, 2, 2, 5, 2, 3, 4);
    Refusals.chainAt("2;&ab", "c:a", 1, 2, 2, 2, 5, 2, 3, 5);
    Refusals.chainAt("2;&ab", "l:a", 1, 2, 2, 2, 5, 11, 3, 5);
    Due.of(5, "or there is no room for it;");
    Refusals.chainAt(TEN + ";&ab", "a:a", 1, 10, 2, 10, 4, 35);
    Refusals.chainAt(TEN + ";!a;&a", "a:a", 1, 11, 2, 11, 4, 37);
    Refusals.chainAt(TEN + ";&ab;&", "aa:a", 1, 11, 2, 11, 4, 37);
    Refusals.chainAt(TEN + ";&ab;#", "a:a", 1, 11, 2, 11, 4, 37);
    Due.of(5, "behind its letters, where no more must come, it is right),");
    Refusals.chainAt("2;!a", "b:a", 1, 3, 3, 4);
    Refusals.chainAt("2;!a", "", 1, 3, 3, 4);
    Refusals.chainAt("2;&ab", "0:a", 1, 3, 3, 5);
    Refusals.chainAt("2;&ab", "", 1, 3, 3, 5);
    Refusals.chainAt("2;&aba", "b:a", 1, 3, 3, 6);
    Refusals.chainAt("2;&aba", "l:a", 1, 3, 3, 6);
    Refusals.chainAt("2;#l", "2:a", 1, 3, 3, 4);
    Refusals.chainAt("2;#l", "", 1, 3, 3, 4);
    Refusals.chainAt("2;#l0", "1:a", 1, 3, 3, 5);
    Due.of(5, "or if it is a REGISTER's PIN (-200: that of the first such LINE; of 1 there all LINES are counted);");
    Refusals.chain("1;#c:a", -200, 1, 2, 2, 1, 5, 2);
    Refusals.chain("2;#a;#k;#l1;!a:a", -200, 1, 6, 2, 3, 5, 10);
    Refusals.chain("1" + times(";!a", 9) + ";#l:a", -200, 1, 11, 2, 10, 5, 11);
  }

  private static void causeOrder() {
    Due.of(5, "behind 2, else behind 1, there is 3, 4 or 5 (of one place the first of 3, 5, 4);");
    // the first sign of a thirteenth LINE, none of theirs; a fifth OUTPUT that is no letter, or told
    Refusals.chainAt("1" + times(";!a", 11) + ";", "a", 1, 12, 3, 35);
    Refusals.chainAt("1;#a;#a;#a;", "3", 1, 4, 3, 11);
    Refusals.chainAt("4;!a:abcd", ";", 1, 5, 3, 9);
    Refusals.chainAt("4;!a:abcd", "m", 1, 5, 3, 9);
    Refusals.chainAt("4;!a:abcd", "d", 1, 5, 5, 3, 3, 9);
    Refusals.chainAt("4;!a:abcd", "f", 1, 5, 5, 5, 3, 9);
    Refusals.chainAt("4;!a:abcd", "e", 1, 5, 4, 9);
    // a twenty-first PIN
    Refusals.chainAt(TEN + ";&ab;!", "0", 1, 11, 2, 11, 3, 37);
    Refusals.chainAt(TEN + ";&ab;!", "m", 1, 11, 2, 11, 3, 37);
    Refusals.chainAt(TEN + ";&ab;!", "l", 1, 11, 2, 11, 5, 11, 3, 37);
    Refusals.chainAt(TEN + ";&ab;!", "k", 1, 11, 2, 11, 4, 37);
    Refusals.chainAt(TEN + ";&ab;#", "l", 1, 11, 2, 11, 4, 37);
    Refusals.chainAt(TEN + ";&ab", "k", 1, 10, 2, 10, 5, 10, 3, 35);
    Refusals.chainAt(TEN + ";&ab", "j", 1, 10, 2, 10, 4, 35);
    Due.of(5, "behind 5, but not for -200, there is 3.");
    Refusals.chainAt("1;!", "b", 1, 1, 2, 1, 5, 1, 3, 3);
    Refusals.chainAt("1:", "b", 1, 1, 5, 1, 3, 2);
    Refusals.chain("1;#d:a", -200, 1, 2, 2, 1, 5, 3);
  }

  private static void causeNone() {
    Due.of(5, "NONE: no such, another what, or the latest net() was not refused (or there was none).");
    FaultLists x = new FaultLists();
    for (int k = 0; k < 5; k++) for (int what = 0; what < 2; what++) Due.is("cause of none", x.cause(k, what), -1);
    Due.text(x, "2;!c");
    Due.is("net()", x.net(), -4);
    Due.is("cause(3, 1)", x.cause(3, 1), 3);
    for (int k : Due.outside(4)) Due.is("cause(" + k + ", 0)", x.cause(k, 0), -1);
    for (int k : Due.outside(4)) Due.is("cause(" + k + ", 1)", x.cause(k, 1), -1);
    for (int what : Due.outside(2)) Due.is("cause(0, " + what + ")", x.cause(0, what), -1);
    for (int what : Due.outside(2)) Due.is("cause(3, " + what + ")", x.cause(3, what), -1);
    Due.is("cause(3, 0)", x.cause(3, 0), 3);
    Due.text(x, "1:a");
    Due.is("net()", x.net(), 2);
    for (int k = 0; k < 5; k++) for (int what = 0; what < 2; what++) Due.is("cause behind a right one", x.cause(k, what), -1);
  }

  private static void line() {
    Due.of(6, "Of LINE k, what 0: its sort (0 INPUT, 1 !, 2 =, 3 &, 4 |, 5 ^, 6 n, 7 r, 8 #),");
    FaultLists x = Due.withNet("1;!a;=a;&aa;|aaa;^aa;naa;raa;#a1:i", 46);
    for (int k = 0; k <= 8; k++) Due.is("line(" + k + ", 0)", x.line(k, 0), k);
    Due.of(6, "1: how many PINS,");
    int[] widths = {0, 1, 1, 2, 3, 2, 2, 2, 1};
    for (int k = 0; k <= 8; k++) Due.is("line(" + k + ", 1)", x.line(k, 1), widths[k]);
    Due.of(6, "2: its first PIN (NONE: none),");
    int[] firsts = {-1, 0, 1, 2, 4, 7, 9, 11, 13};
    for (int k = 0; k <= 8; k++) Due.is("line(" + k + ", 2)", x.line(k, 2), firsts[k]);
    Due.is("line(11, 2)", Due.withNet(TEN + ";=a;=a:a", 64).line(11, 2), 19);
    Due.of(6, "3: START (NONE: no REGISTER),");
    for (int k = 0; k <= 8; k++) Due.is("line(" + k + ", 3)", x.line(k, 3), k == 8 ? 1 : -1);
    FaultLists y = Due.withNet("1;#a0;#a1;#a:a", 14);
    for (int k = 1; k <= 3; k++) Due.is("line(" + k + ", 3)", y.line(k, 3), k - 1);
    Due.of(6, "4: 1 if it is an OUTPUT, else 0,");
    for (int k = 0; k <= 8; k++) Due.is("line(" + k + ", 4)", x.line(k, 4), k == 8 ? 1 : 0);
    FaultLists four = Due.withNet("4:dcba", 8);
    for (int k = 0; k <= 3; k++) Due.is("line(" + k + ", 4)", four.line(k, 4), 1);
    Due.of(6, "5: how many PINS read it.");
    Due.is("line(0, 5)", x.line(0, 5), 14);
    Due.is("line(8, 5)", x.line(8, 5), 0);
    FaultLists all = Due.withNet("4;&aaa;&aaa;&aaa;&aaa;&aaa;&aaa;=a;#a:a", 64);
    Due.is("line(0, 5)", all.line(0, 5), 20);
    Due.is("line(1, 5)", all.line(1, 5), 0);
    Due.is("line(1, 5): a REGISTER's own PIN", Due.withNet("1;#b:a", 6).line(1, 5), 1);
  }

  private static void lineNone() {
    Due.of(6, "NoSuchElementException: none such, another what.");
    FaultLists x = new FaultLists();
    for (int k : Due.outside(1)) Due.thrown("line(" + k + ", 0)", () -> x.line(k, 0));
    for (int what : Due.outside(6)) Due.thrown("line(0, " + what + ")", () -> x.line(0, what));
    for (int k : Due.outside(1)) Due.thrown("line(" + k + ", 6)", () -> x.line(k, 6));
    FaultLists y = Due.withNet(FULL, 64);
    for (int k : Due.outside(12)) Due.thrown("line(" + k + ", 5)", () -> y.line(k, 5));
    for (int what : Due.outside(6)) Due.thrown("line(11, " + what + ")", () -> y.line(11, what));
    // a net of fewer LINES than the one before
    Due.text(y, AND);
    Due.is("net()", y.net(), 10);
    for (int k = 3; k < 12; k++) {
      int at = k;
      Due.thrown("line(" + k + ", 0)", () -> y.line(at, 0));
    }
  }

  private static void pin() {
    Due.of(7, "The LINE that PIN p reads.");
    FaultLists x = Due.withNet("4;&abc;&abc;&abc;&abc;&abc;&abc;=d;#l:a", 64);
    for (int p = 0; p < 18; p++) Due.is("pin(" + p + ")", x.pin(p), p % 3);
    Due.is("pin(18)", x.pin(18), 3);
    Due.is("pin(19)", x.pin(19), 11);
    Due.of(7, "NoSuchElementException: none such.");
    for (int p : Due.outside(20)) Due.thrown("pin(" + p + ")", () -> x.pin(p));
    FaultLists none = new FaultLists();
    Due.thrown("pin(0)", () -> none.pin(0));
    for (int p : Due.outside(1)) Due.thrown("pin(" + p + ")", () -> none.pin(p));
    // a net of fewer PINS than the one before
    Due.text(x, "1;!a:b");
    Due.is("net()", x.net(), 6);
    for (int p : Due.outside(1)) Due.thrown("pin(" + p + ")", () -> x.pin(p));
  }
}
