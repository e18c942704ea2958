import java.nio.charset.StandardCharsets;
import java.nio.file.Files;
import java.nio.file.Path;
import java.util.regex.Matcher;
import java.util.regex.Pattern;

/** The program's text keeps to what of ../shared/LANGUAGE.md a text shows; each check names its rule. */
public final class LanguageTest {
  private static final Path SOURCE = Path.of("src/main/java/FaultLists.java");
  /** What must not stand there, behind the rule that it is of. */
  private static final String[][] BANNED = {
    {"rule 1, no package line", "\\bpackage\\b"},
    {"rule 2, no lambda, no method reference", "->", "::"},
    {"rule 3, types and classes", "\\bvar\\b", "\\bdouble\\b", "\\bfloat\\b", "\\bObject\\b", "@"},
    {"rule 4, the library", "\\bSystem\\b", "\\bInteger\\.(?!bitCount)", "\\bLong\\.(?!bitCount)", "\\bMath\\.(?!max)",
        "\\bString\\.", "\\bgetClass\\b"},
    {"rule 5, no static initialiser", "\\bstatic \\{"},
    {"rule 6, exceptions and own objects", "\\btry\\b", "\\bcatch\\b", "\\bfinally\\b", "\\bsynchronized\\b", "\\bassert\\b",
        "\\binstanceof\\b", "\\bequals\\b", "\\bhashCode\\b", "\\btoString\\b"},
    {"rule 7, no reference may be null", "\\bnull\\b"},
    {"rule 10, no joining of texts by +", "\\+ \"", "\" \\+"},
    {"rule 13, no thread", "\\bThread\\b"}};

  public static void main(String[] args) throws Exception {
    String source = Files.readString(SOURCE, StandardCharsets.ISO_8859_1);
    Due.about("LANGUAGE.md, rule 4, signs 1 to 127");
    Due.is("signs 1 to 127", source.chars().allMatch(c -> c >= 1 && c <= 127), true);
    String code = source.replaceAll("(?s)/\\*.*?\\*/", "").replaceAll("//[^\n]*", "").replaceAll("'.'", "'0'");
    for (String[] rule : BANNED) {
      Due.about("LANGUAGE.md, " + rule[0]);
      for (int i = 1; i < rule.length; i++) none(code, rule[i]);
    }
    Due.about("LANGUAGE.md, rule 4, the library");
    one(code, "\\bimport\\b");
    one(code, "\\bimport java\\.util\\.NoSuchElementException;");
    Due.about("LANGUAGE.md, rule 6, throw new E()");
    onlyThrows(code);
    Due.about("LANGUAGE.md, rule 7, an index is looked at before it is used, a divisor before it divides");
    // an index stands in Cells alone, behind a look at it
    int cells = code.indexOf("class Cells {");
    int behind = code.indexOf("private static final class Pile");
    String rest = code.substring(0, cells) + code.substring(behind);
    none(rest, "\\[");
    divisors(code);
    Due.about("LANGUAGE.md, rule 12, what a run makes is kept small");
    // objects are made in constructors and initialisers, and where an exception is thrown
    none(rest, "(?<!throw |= )\\bnew\\b");
    none(rest, "(?m)^(?! *(private )?(static )?final | *cells = ).* = new ");
    Due.about("LANGUAGE.md, rule 11, methods stay short, at most seven parameters");
    methods(code);
    Due.leave();
  }

  private static void none(String code, String pattern) {
    Matcher m = Pattern.compile(pattern).matcher(code);
    boolean found = m.find();
    Due.is(pattern + (found ? " near " + code.substring(m.start(), Math.min(code.length(), m.start() + 60)) : ""), found, false);
  }

  private static void one(String code, String pattern) {
    Due.is(pattern, Pattern.compile(pattern).matcher(code).results().count(), 1);
  }

  private static void onlyThrows(String code) {
    Matcher m = Pattern.compile("\\bthrow\\b[^;]*;").matcher(code);
    while (m.find()) Due.is(m.group(), m.group().equals("throw new NoSuchElementException();"), true);
  }

  /** Every divisor is a number written out, a constant that is not 0, or d, which is above 1 there. */
  private static void divisors(String code) {
    Matcher m = Pattern.compile("[/%]=? *([A-Za-z0-9_.]+)").matcher(code);
    while (m.find()) Due.is("divisor " + m.group(1), m.group(1).matches("[1-9]|Moves\\.STATES|d"), true);
    one(code, "for \\(int d = below; d > 1; d--\\)");
  }

  private static void methods(String code) {
    Matcher m = Pattern.compile("(?m)^( {4}| {8})[a-zA-Z][^;={}\n]*\\(([^)\n]*)\\)[^;={}\n]*\\{\n").matcher(code);
    int methods = 0;
    while (m.find()) {
      methods++;
      String end = "\n" + m.group(1) + "}\n";
      long lines = code.substring(m.end(), code.indexOf(end, m.end() - 1) + 1).lines().count();
      Due.is(m.group().trim() + " has at most 60 lines", lines <= 60, true);
      Due.is(m.group().trim() + " has at most 7 parameters", m.group(2).split(",").length <= 7, true);
    }
    Due.is("methods were found", methods > 100, true);
  }
}
