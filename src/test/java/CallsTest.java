import com.sun.source.tree.ClassTree;
import com.sun.source.tree.CompilationUnitTree;
import com.sun.source.tree.MethodInvocationTree;
import com.sun.source.tree.MethodTree;
import com.sun.source.tree.NewClassTree;
import com.sun.source.tree.ThrowTree;
import com.sun.source.util.JavacTask;
import com.sun.source.util.TreePathScanner;
import com.sun.source.util.Trees;
import java.io.File;
import java.util.ArrayList;
import java.util.List;
import java.util.Map;
import java.util.Set;
import java.util.TreeMap;
import java.util.TreeSet;
import javax.lang.model.element.Element;
import javax.tools.JavaCompiler;
import javax.tools.StandardJavaFileManager;
import javax.tools.ToolProvider;

/** What the program's methods call: themselves, one another, the library. javac tells it. */
public final class CallsTest {
  private static final File SOURCE = new File("src/main/java/FaultLists.java");
  private static final int DEEPEST = 8;
  private static final Set<String> LIBRARY = Set.of("java.lang.String.indexOf(int)", "java.lang.Integer.bitCount(int)",
      "java.lang.Long.bitCount(long)", "java.lang.Math.max(int,int)", "java.lang.Object.Object()",
      "java.util.NoSuchElementException.NoSuchElementException()");

  private final Map<String, Set<String>> calls = new TreeMap<>();
  private final Set<String> outside = new TreeSet<>();

  public static void main(String[] args) throws Exception {
    CallsTest test = new CallsTest();
    test.read();
    Due.about("LANGUAGE.md, rule 4, the library");
    for (String call : test.outside) Due.is(call + " is of the list", LIBRARY.contains(call), true);
    Due.about("LANGUAGE.md, rules 8 and 11, no call goes more than eight deep, none stands open twice");
    Due.is("methods were found", test.calls.size() > 100, true);
    List<String> deepest = new ArrayList<>();
    for (String method : test.calls.keySet()) {
      List<String> way = test.deepest(method, new ArrayList<>());
      if (way.size() > deepest.size()) deepest = way;
    }
    Due.is("calls open at once: " + deepest, deepest.size() <= DEEPEST, true);
    System.out.println(deepest.size() + " calls deep at most");
    Due.leave();
  }

  private void read() throws Exception {
    JavaCompiler javac = ToolProvider.getSystemJavaCompiler();
    try (StandardJavaFileManager files = javac.getStandardFileManager(null, null, null)) {
      JavacTask task = (JavacTask) javac.getTask(null, files, null, List.of("-proc:none"), null, files.getJavaFileObjects(SOURCE));
      Trees trees = Trees.instance(task);
      List<CompilationUnitTree> units = new ArrayList<>();
      for (CompilationUnitTree unit : task.parse()) units.add(unit);
      task.analyze();
      for (CompilationUnitTree unit : units) new Reader(trees).scan(unit, null);
    }
  }

  private static String nameOf(Element method) {
    String owner = method.getEnclosingElement().toString();
    return owner + "." + method.toString().replaceAll("^<init>", owner.replaceAll(".*\\.", ""));
  }

  /** The longest way of calls from a method on; a method that is met again on its own way is told. */
  private List<String> deepest(String method, List<String> ahead) {
    Due.is(method + " calls itself by " + ahead, ahead.contains(method), false);
    List<String> best = new ArrayList<>();
    if (ahead.contains(method)) return best;
    ahead.add(method);
    for (String called : calledBy(method)) {
      List<String> way = deepest(called, ahead);
      if (way.size() > best.size()) best = way;
    }
    ahead.remove(ahead.size() - 1);
    best.add(0, method);
    return best;
  }

  /** What a method calls; a constructor calls what its class's fields are made by, too. */
  private Set<String> calledBy(String method) {
    Set<String> called = new TreeSet<>(calls.getOrDefault(method, Set.of()));
    String owner = method.replaceAll("\\.[^.]*\\(.*", "");
    String simple = owner.replaceAll(".*\\.", "");
    if (method.startsWith(owner + "." + simple + "(")) called.addAll(calls.getOrDefault(owner, Set.of()));
    return called;
  }

  /** Notes of each method what it calls; what stands in a class outside of its methods by the class's name. */
  private final class Reader extends TreePathScanner<Void, Void> {
    private final Trees trees;
    private String within = "";
    private boolean constructs = false;

    Reader(Trees trees) { this.trees = trees; }

    @Override
    public Void visitClass(ClassTree tree, Void none) {
      String before = within;
      within = trees.getElement(getCurrentPath()).toString();
      super.visitClass(tree, none);
      within = before;
      return null;
    }

    @Override
    public Void visitMethod(MethodTree tree, Void none) {
      String before = within;
      within = nameOf(trees.getElement(getCurrentPath()));
      constructs = tree.getReturnType() == null;
      calls.computeIfAbsent(within, m -> new TreeSet<>());
      super.visitMethod(tree, none);
      within = before;
      constructs = false;
      return null;
    }

    @Override
    public Void visitMethodInvocation(MethodInvocationTree tree, Void none) {
      note();
      return super.visitMethodInvocation(tree, none);
    }

    @Override
    public Void visitNewClass(NewClassTree tree, Void none) {
      note();
      return super.visitNewClass(tree, none);
    }

    @Override
    public Void visitThrow(ThrowTree tree, Void none) {
      Due.is("LANGUAGE.md, rule 6, a throw in a constructor: " + within, constructs, false);
      return super.visitThrow(tree, none);
    }

    private void note() {
      Element called = trees.getElement(getCurrentPath());
      String name = nameOf(called);
      if (name.startsWith("FaultLists")) calls.computeIfAbsent(within, m -> new TreeSet<>()).add(name);
      else outside.add(name);
    }
  }
}
