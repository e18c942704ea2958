/**
 * Promises 4 and 5: texts of nets at all their limits, with one sign another one, one left out, one put
 * in, or cut, everywhere: the answer of net() and the whole chain of causes are the model's. Promises 8
 * and 25: the like with PATTERNS and with what was seen.
 */
public final class SpoiledTest {
  private static final String[] NETS = {"1:a", "4:dcba", "2;&ab:c", "2;&ab;#e;|cd;#c0:ef", "1;#a0;#b1;#c:d", "1;!a;=b;#e0;#f1;#l:a",
      "1;#a0;#b1;#c1;&ab;&ab;&ab;&ab;&ab;&ab;&ab;&abc:lcba", "4;&abc;&abc;&abc;&abc;&abc;&abc;=a;#l:l",
      "4;&abc;&abc;&abc;&abc;&abc;&abc;&ab:jihg", "4;&abc;&abc;&abc;&abc;&abc;&abc;=a:k", "1;!a;!a;!a;!a;!a;!a;!a;!a;!a;!a;!a:l"};
  private static final String SIGNS = "0123459abcdeijklmnrzu;:!=&|^#+ A\0\177\200\260\377";

  private static int texts = 0;

  private SpoiledTest() {}

  public static void main(String[] args) {
    for (String net : NETS) {
      all(net, SpoiledTest::net);
      all(net + net, SpoiledTest::net);
    }
    all("01u10u11", SpoiledTest::patterns);
    all("01u10u11", SpoiledTest::seen);
    System.out.println(texts + " texts");
    Due.leave();
  }

  private interface Try { void with(String text); }

  private static void all(String text, Try each) {
    String whole = text.length() > 80 ? text.substring(0, 80) : text;
    for (int p = 0; p <= whole.length(); p++) {
      String ahead = whole.substring(0, p);
      String behind = whole.substring(p);
      each.with(ahead);
      if (!behind.isEmpty()) each.with(ahead + behind.substring(1));
      for (char c : SIGNS.toCharArray()) {
        if (!behind.isEmpty()) each.with(ahead + c + behind.substring(1));
        if (whole.length() < 80) each.with(ahead + c + behind);
      }
    }
  }

  private static void tell(FaultLists x, Model model, String text) {
    texts++;
    Due.text(x, text);
    for (int p = 0; p < text.length(); p += 4) {
      int v = 0;
      for (int i = 0; i < 4; i++) v = v << 8 | (p + i < text.length() ? text.charAt(p + i) : 0);
      model.sign(v);
    }
    model.end(text.length());
  }

  private static void net(String text) {
    FaultLists x = new FaultLists();
    Model model = new Model();
    Due.about("promise 4, net() of " + text);
    tell(x, model, text);
    Due.is("net()", x.net(), model.net());
    Due.about("promise 5, cause() of " + text);
    for (int k = 0; k < 5; k++) {
      for (int what = 0; what < 2; what++) Due.is("cause(" + k + ", " + what + ")", x.cause(k, what), model.cause(k, what));
    }
  }

  private static void patterns(String text) {
    for (int inputs = 1; inputs <= 4; inputs++) {
      FaultLists x = Due.withNet(inputs + ":a", 2 * inputs);
      Model model = new Model();
      Due.about("promise 8, applies() of " + text + " by " + inputs);
      tell(x, model, inputs + ":a");
      Due.is("net()", x.net(), model.net());
      tell(x, model, text);
      Due.is("applies()", x.applies(), model.applies());
      Due.is("count(6)", x.count(6), model.count(6));
    }
  }

  private static void seen(String text) {
    for (int outputs = 1; outputs <= 4; outputs++) {
      String net = "4:" + "dbca".substring(0, outputs);
      FaultLists x = new FaultLists();
      Model model = new Model();
      Due.about("promise 25, blames() of " + text + " by " + outputs);
      tell(x, model, net);
      Due.is("net()", x.net(), model.net());
      tell(x, model, "01u110u1");
      Due.is("applies()", x.applies(), model.applies());
      tell(x, model, text);
      Due.is("blames()", x.blames(), model.blames());
      Due.is("count(9)", x.count(9), model.count(9));
    }
  }
}
