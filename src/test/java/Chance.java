/** Numbers that look drawn but are the same each time; nets and texts made of them. */
final class Chance {
  private long state;

  Chance(long seed) { state = seed * 0x9E3779B97F4A7C15L + 1; }

  int below(int n) {
    state = state * 6364136223846793005L + 1442695040888963407L;
    return (int) ((state >>> 33) % n);
  }

  boolean oneIn(int n) { return below(n) == 0; }

  int between(int from, int to) { return from + below(to - from + 1); }

  private char letter(int below) { return (char) ('a' + below(below)); }

  /** A net's text that is most often right: a letter too far or a line too much now and then. */
  String net() {
    int inputs = between(1, 4);
    int lines = oneIn(4) ? between(8, 13) : between(0, 6);
    int registers = between(0, 3);
    StringBuilder t = new StringBuilder().append(inputs);
    for (int k = inputs; k < inputs + lines; k++) {
      if (registers > 0 && oneIn(3)) {
        t.append(";#").append(letter(oneIn(8) ? 12 : inputs + lines > 12 ? 12 : inputs + lines));
        int start = below(3);
        if (start < 2) t.append(start);
        registers -= oneIn(30) ? 0 : 1;
      } else {
        int sort = below(7);
        t.append(';').append("!=&|^nr".charAt(sort));
        int width = sort < 2 ? 1 : oneIn(3) ? 3 : 2;
        for (int i = 0; i < width; i++) t.append(letter(Math.min(12, oneIn(60) ? k + 1 : k)));
      }
    }
    t.append(':');
    int all = Math.min(12, inputs + lines);
    int outputs = between(1, Math.min(4, all));
    String outs = "";
    // the last lines first, so that most of the net is seen
    for (int k = all - 1; k >= 0 && outs.length() < outputs; k--) {
      if (oneIn(2) || k < outputs - outs.length()) outs += (char) ('a' + k);
    }
    return t.append(outs).toString();
  }

  /** The text with some signs left out, put in or changed. */
  String spoiled(String text) {
    StringBuilder t = new StringBuilder(text);
    for (int i = between(1, 2); i > 0; i--) {
      int p = below(t.length() + 1);
      char c = "abcdefghijklmnrz;:!=&|^#0123450u A".charAt(below(34));
      int how = below(4);
      if (how == 0) t.insert(p, c);
      else if (how == 1) t.setLength(p);
      else if (how == 2 && p < t.length()) t.deleteCharAt(p);
      else if (p < t.length()) t.setCharAt(p, c);
    }
    return t.toString();
  }

  /** Signs 0, 1, u. */
  String values(int length, int unknownOneIn) {
    StringBuilder t = new StringBuilder();
    for (int i = 0; i < length; i++) t.append(oneIn(unknownOneIn) ? 'u' : (char) ('0' + below(2)));
    return t.toString();
  }
}
