/** Texts of nets that are refused: by which answer, by which chain of causes. */
final class Refusals {
  private Refusals() {}

  /** The text is refused with the answer by an object that has a net, which stays; THE TEXT is empty. */
  static void refused(String text, int answer) {
    FaultLists x = Due.withNet("2;&ab:c", 10);
    Due.text(x, text);
    Due.is("net() of " + text, x.net(), answer);
    Due.is("count(5) behind " + text, x.count(5), 10);
    Due.is("count(12) behind " + text, x.count(12), 0);
  }

  /** The text is refused with the answer; the chain is these pairs, what 0 and what 1 of each, and no more. */
  static void chain(String text, int answer, int... due) {
    FaultLists x = new FaultLists();
    Due.text(x, text);
    Due.is("net() of " + text, x.net(), answer);
    for (int i = 0; i < due.length; i++) {
      Due.is("cause(" + i / 2 + ", " + i % 2 + ") of " + text, x.cause(i / 2, i % 2), due[i]);
    }
    Due.is("cause behind the last of " + text, x.cause(due.length / 2, 0), -1);
    Due.is("cause behind the last of " + text, x.cause(due.length / 2, 1), -1);
  }

  /** The chain of a sign at a place, told by what is ahead of the place; -200 has no place. */
  static void chainAt(String ahead, String behind, int... due) {
    chain(ahead + behind, -1 - ahead.length(), due);
  }
}
