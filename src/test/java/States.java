/** Objects in a state in which there is something of everything. */
final class States {
  /** LINES a, b, c = a AND b, d that holds e, e = c OR d, f that holds c: 6 LINES, 6 PINS, 24 FAULTS. */
  static final String NET = "2;&ab;#e;|cd;#c0:ef";

  private States() {}

  /** A net, a RUN of two TICKS, FAULTS DETECTED and DROPPED, SUSPECTS, a ROW, what was kept under 0, a chain. */
  static FaultLists busy(String refused) {
    FaultLists x = Due.withNet(NET, 24);
    Due.text(x, "10");
    x.applies();
    Due.is("keep(0)", x.keep(0), true);
    Due.is("drops(1)", x.drops(1), 0);
    Due.text(x, "11");
    x.applies();
    Due.text(x, "u01u");
    Due.is("blames()", x.blames() > 2, true);
    Due.text(x, refused);
    Due.is("net()", x.net() < 0, true);
    Due.is("count(6)", x.count(6), 2);
    Due.is("some are DETECTED", x.count(7) > 1, true);
    Due.text(x, "01u");
    return x;
  }

  static FaultLists busy() { return busy("2;!c"); }
}
