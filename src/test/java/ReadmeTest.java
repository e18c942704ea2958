import java.io.File;
import java.lang.reflect.Method;
import java.lang.reflect.Modifier;
import java.nio.file.Files;
import java.nio.file.Path;
import java.util.Set;
import java.util.TreeSet;
import java.util.regex.Matcher;
import java.util.regex.Pattern;
import javax.tools.ToolProvider;

/** The Java that README.md shows is compiled and run: each call answers what stands behind it. */
public final class ReadmeTest {
  private static final Path README = Path.of("README.md");
  private static final Pattern BLOCK = Pattern.compile("(?s)\n```java\n(.*?)```");
  private static final Pattern SHOWN = Pattern.compile("x\\.(\\w+)\\((.*)\\); +// (-?\\d+|NONE|true|false|NoSuchElementException)(:.*)?");
  private static final Pattern PROMISE = Pattern.compile("(?m)^\\| `(\\w+)\\([a-z, ]*\\)` \\| (\\d+) \\|");
  private static final String SHOWN_CALLS = "ReadmeCalls";
  private static final int CALLS = 512;

  private final StringBuilder helpers = new StringBuilder();
  private final StringBuilder statements = new StringBuilder();
  private final Set<String> met = new TreeSet<>();
  private final Set<String> answers = new TreeSet<>();
  private int calls = 0;

  public static void main(String[] args) throws Exception {
    String page = Files.readString(README);
    Due.about("README.md");
    ReadmeTest test = new ReadmeTest();
    Matcher block = BLOCK.matcher(page);
    while (block.find()) test.take(block.group(1));
    test.checkWhatIsMet();
    test.runShown();
    checkPromises(page);
    checkTests(page);
    Due.of("What it is", "An object is used for at most 512 calls after it has been made");
    Due.is("README.md says how many calls", page.contains("For 512 calls after it has been made"), true);
    Due.is("the calls shown are as many at most", test.calls > 100 && test.calls <= CALLS, true);
    Due.leave();
  }

  private void take(String block) {
    if (block.startsWith("static ")) helpers.append(block);
    else for (String line : block.split("\n")) statements.append(checked(line)).append('\n');
  }

  /** A call with its answer becomes a check of it; a text that is told, and the object, stay as they are. */
  private String checked(String line) {
    if (line.equals("FaultLists x = new FaultLists();")) return line;
    if (line.matches("tell\\(x, \"[^\"]*\"\\);")) {
      calls += 2 + (line.length() - 12 + 3) / 4;
      return line;
    }
    Matcher m = SHOWN.matcher(line);
    boolean shown = m.matches();
    Due.is("a line of a call and its answer: " + line, shown, true);
    if (!shown) return "";
    calls++;
    met.add(m.group(1));
    String answer = m.group(3);
    answers.add(answer.matches("-(?!2$|200$)\\d+") ? "-1 - p" : answer);
    String call = m.group(1) + "(" + m.group(2) + ")";
    if (answer.equals("NoSuchElementException")) return "Due.thrown(\"" + call + "\", () -> x." + call + ");";
    String due = answer.equals("NONE") ? "FaultLists.NONE" : answer;
    return "Due.is(\"" + call + "\", x." + call + ", " + due + ");";
  }

  private void checkWhatIsMet() {
    for (Method m : FaultLists.class.getDeclaredMethods()) {
      if (Modifier.isPublic(m.getModifiers())) Due.is(m.getName() + " is met", met.contains(m.getName()), true);
    }
    for (String answer : new String[] {"NONE", "false", "-2", "-1 - p", "-200", "NoSuchElementException"}) {
      Due.is("a call that answers " + answer + " is met", answers.contains(answer), true);
    }
  }

  /** What is shown is compiled beside this class, so that it finds the others. */
  private void runShown() throws Exception {
    String classes = System.getProperty("java.class.path").split(File.pathSeparator)[0];
    Path file = Path.of(classes, SHOWN_CALLS + ".java");
    Files.writeString(file, "public final class " + SHOWN_CALLS + " {\n" + helpers
        + "public static void all() {\n" + statements + "}\n}\n");
    int failed = ToolProvider.getSystemJavaCompiler()
        .run(null, System.out, System.err, "-encoding", "UTF-8", "-cp", classes, "-d", classes, file.toString());
    Due.is("what is shown is Java", failed, 0);
    if (failed == 0) Class.forName(SHOWN_CALLS).getMethod("all").invoke(null);
  }

  /** Each call of the face stands in the table with the promise that the document has of it. */
  private static void checkPromises(String page) {
    Set<String> left = new TreeSet<>();
    for (Method m : FaultLists.class.getDeclaredMethods()) if (Modifier.isPublic(m.getModifiers())) left.add(m.getName());
    left.add("FaultLists");
    Matcher m = PROMISE.matcher(page);
    while (m.find()) {
      String call = m.group(1);
      Due.is(call + " is of the face and told once", left.remove(call), true);
      String heading = call.equals("FaultLists") ? "A new object" : call;
      Due.is(call + " is of promise " + m.group(2), Doc.promiseOf(heading).equals("Promise " + m.group(2)), true);
    }
    Due.is("all are told but " + left, left.isEmpty(), true);
  }

  private static void checkTests(String page) {
    File[] tests = new File("src/test/java").listFiles((folder, name) -> name.endsWith("Test.java"));
    for (File test : tests) {
      String name = test.getName().replace(".java", "");
      Due.is(name + " is told", page.contains("`" + name + "`"), true);
    }
    Due.is("how the tests are run", page.contains("`.ci/run`"), true);
  }
}
