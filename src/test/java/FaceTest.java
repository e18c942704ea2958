import java.lang.reflect.Constructor;
import java.lang.reflect.Field;
import java.lang.reflect.Method;
import java.lang.reflect.Modifier;
import java.util.Arrays;
import java.util.TreeSet;

/** The class shows the document's face and nothing else. */
public final class FaceTest {
  private static final String[] FACE = {
    "public int sign(int)", "public boolean end(int)", "public int net()", "public int cause(int,int)",
    "public int line(int,int) throws java.util.NoSuchElementException",
    "public int pin(int) throws java.util.NoSuchElementException",
    "public int applies()", "public int would()", "public int begins()", "public int drops(int)",
    "public int value(int)", "public int faulty(int,int)", "public int holds(int)", "public int detected()",
    "public int when(int)", "public int sample(int,int)", "public int critical(int)", "public int classes()",
    "public int classOf(int)", "public int tests(int)", "public int hidden()", "public int needless()",
    "public int shorter()", "public int blames()", "public int parts()", "public int drawn(int,int)",
    "public boolean keep(int)", "public boolean again(int)", "public int count(int)",
    "public long row(int) throws java.util.NoSuchElementException"};

  public static void main(String[] args) throws Exception {
    Class<?> face = FaultLists.class;
    Due.of("The public face", "public final class FaultLists");
    Due.is("public final", Modifier.isPublic(face.getModifiers()) && Modifier.isFinal(face.getModifiers()), true);
    TreeSet<String> due = new TreeSet<>(Arrays.asList(FACE));
    TreeSet<String> names = new TreeSet<>();
    for (Method m : face.getDeclaredMethods()) {
      if (Modifier.isPrivate(m.getModifiers())) continue;
      names.add(m.getName());
      Due.is(m + " is of the face", due.remove(m.toString().replace("FaultLists.", "")), true);
    }
    for (String missing : due) Due.is(missing + " stands", false, true);
    for (Method m : face.getDeclaredMethods()) {
      Due.is(m + " is private and has a public one's name", Modifier.isPrivate(m.getModifiers()) && names.contains(m.getName()), false);
    }
    for (Class<?> inside : face.getDeclaredClasses()) {
      Due.is(inside + " is static, not public", Modifier.isStatic(inside.getModifiers()) && !Modifier.isPublic(inside.getModifiers()), true);
      for (Method m : inside.getDeclaredMethods()) Due.is(m + " has a public one's name", names.contains(m.getName()), false);
      for (Field f : inside.getDeclaredFields()) checkStatic(f);
      Due.is(inside + " has some twenty fields", ownFields(inside) <= 20, true);
    }
    Due.is("some twelve classes", face.getDeclaredClasses().length <= 11, true);
    Due.is("some twenty fields", ownFields(face) <= 20, true);
    Constructor<?>[] constructors = face.getDeclaredConstructors();
    Due.is("one constructor", constructors.length, 1);
    Due.is("the constructor", Modifier.isPublic(constructors[0].getModifiers()) && constructors[0].getParameterCount() == 0, true);
    for (Field f : face.getDeclaredFields()) {
      checkStatic(f);
      Due.is(f + " is NONE or private", Modifier.isPrivate(f.getModifiers()) || f.toString().equals("public static final int FaultLists.NONE"), true);
    }
    Due.of("The public face", "public static final int NONE = -1;");
    Due.is("NONE", face.getField("NONE").getInt(null), -1);
    Due.leave();
  }

  private static void checkStatic(Field f) {
    boolean changes = Modifier.isStatic(f.getModifiers()) && !Modifier.isFinal(f.getModifiers());
    Due.is(f + " is static and can change", changes, false);
  }

  private static long ownFields(Class<?> c) {
    return Arrays.stream(c.getDeclaredFields()).filter(f -> !Modifier.isStatic(f.getModifiers())).count();
  }
}
