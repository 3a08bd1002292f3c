import java.lang.reflect.Constructor;
import java.lang.reflect.Field;
import java.lang.reflect.Method;
import java.lang.reflect.Modifier;
import java.nio.file.Files;
import java.nio.file.Path;
import java.util.Set;
import java.util.TreeSet;

/** The face of the document and nothing beside it, and what of LANGUAGE.md can be seen in the text. */
public final class FaceTest {
  private static final String INDEX = " IndexOutOfBoundsException";
  private static final String BOTH = " IndexOutOfBoundsException IllegalArgumentException";
  private static final String[] FACE = {
    "int constant(int boolean)" + INDEX, "int variable(int int)" + INDEX,
    "int apply(int int int int)" + BOTH, "int choose(int int int int)" + INDEX,
    "int put(int int int boolean)" + INDEX, "int compose(int int int int)" + INDEX,
    "int quantify(int int int int)" + BOTH, "int meet(int int int int)" + BOTH,
    "int exchange(int int int int)" + INDEX,
    "int press(int int int) IndexOutOfBoundsException IllegalStateException",
    "int atLeast(int int int)" + BOTH, "int below(int int int int)" + BOTH,
    "boolean holds(int int)" + BOTH, "int models(int)" + INDEX, "int model(int int)" + BOTH,
    "int support(int)" + INDEX, "int compare(int int)" + INDEX, "int trend(int int)" + INDEX,
    "boolean isSymmetric(int int int)" + INDEX, "int influence(int int)" + INDEX,
    "int setCost(int int)" + BOTH, "int cheapest(int)" + INDEX, "int size(int)" + INDEX,
    "int total()", "int nodesAt(int)" + INDEX, "int shared(int int)" + INDEX,
    "int ways(int)" + INDEX, "int depth(int)" + INDEX, "int leastSize(int)" + INDEX,
    "int variableAt(int)" + INDEX, "int swap(int)" + INDEX, "int sift(int)" + INDEX,
    "int settle()", "int wouldSwap(int)" + INDEX, "int wouldSift(int)" + INDEX,
    "double meanSize()", "long digest()"
  };
  private static final String[] NEVER = {
    "->", "::", "import ", "package ", "try", "catch", "finally", "synchronized", "assert",
    "System.out", "Object", "static {", "Exact(", "null", "MAX_VALUE", "MIN_VALUE"
  };
  private static int wrong = 0;

  private static void say(boolean so, String what) {
    if (!so) {
      wrong++;
      System.out.println(what);
    }
  }

  private static String told(Method m) {
    StringBuilder b = new StringBuilder(m.getReturnType().getName());
    b.append(' ').append(m.getName()).append('(');
    String gap = "";
    for (Class<?> p : m.getParameterTypes()) {
      b.append(gap).append(p.getName());
      gap = " ";
    }
    b.append(')');
    for (Class<?> e : m.getExceptionTypes()) {
      b.append(' ').append(e.getSimpleName());
    }
    return b.toString();
  }

  private static void members() {
    Set<String> due = new TreeSet<>(Set.of(FACE));
    Set<String> got = new TreeSet<>();
    Set<String> names = new TreeSet<>();
    for (Method m : Trellis.class.getDeclaredMethods()) {
      if (Modifier.isPublic(m.getModifiers())) {
        got.add(told(m));
        names.add(m.getName());
        say(!Modifier.isStatic(m.getModifiers()), m + " is static");
      }
    }
    say(got.equals(due), "the public methods are " + got + ", due are " + due);
    for (Method m : Trellis.class.getDeclaredMethods()) {
      if (!Modifier.isPublic(m.getModifiers())) {
        say(Modifier.isPrivate(m.getModifiers()), m + " is not private");
        say(!names.contains(m.getName()), m + " bears the name of a public one");
      }
    }
    for (Class<?> c : Trellis.class.getDeclaredClasses()) {
      for (Method m : c.getDeclaredMethods()) {
        say(!names.contains(m.getName()), m + " bears the name of a public one");
      }
    }
  }

  private static void fieldsAndClasses() {
    int kind = Trellis.class.getModifiers();
    say(Modifier.isPublic(kind) && Modifier.isFinal(kind), "Trellis is not public and final");
    Constructor<?>[] made = Trellis.class.getDeclaredConstructors();
    say(made.length == 1 && Modifier.isPublic(made[0].getModifiers())
        && made[0].getParameterCount() == 0, "the constructors are not those of the document");
    for (Field f : Trellis.class.getDeclaredFields()) {
      say(Modifier.isPrivate(f.getModifiers()), f + " is not private");
    }
    say(Trellis.class.getDeclaredClasses().length < 12, "there are too many classes");
    for (Class<?> c : Trellis.class.getDeclaredClasses()) {
      say(Modifier.isStatic(c.getModifiers()) && !Modifier.isPublic(c.getModifiers()),
          c + " is not static and hidden");
      fieldsOf(c);
    }
    fieldsOf(Trellis.class);
  }

  private static void fieldsOf(Class<?> c) {
    int many = 0;
    for (Field f : c.getDeclaredFields()) {
      if (Modifier.isStatic(f.getModifiers())) {
        say(Modifier.isFinal(f.getModifiers()), f + " is static and not final");
      } else {
        many++;
      }
    }
    say(many <= 20, c + " has too many fields");
  }

  private static void text() throws Exception {
    String all = Files.readString(Path.of("src/main/java/Trellis.java"));
    String code = all.replaceAll("(?s)/\\*.*?\\*/", "").replaceAll("//[^\n]*", "")
        .replaceAll("\"[^\"]*\"", "\"\"");
    for (String word : NEVER) {
      say(!code.contains(word), "the text holds " + word);
    }
    for (int i = 0; i < all.length(); i++) {
      say(all.charAt(i) < 128, "a sign that is not plain: " + all.charAt(i));
    }
    int length = 0;
    for (String line : all.split("\n")) {
      length = line.matches("^ {2}( {2})?\\S.*\\{$") ? 0 : length + 1;
      if (line.matches("^ {2}( {2})?\\}$")) {
        say(length <= 60, "a method is too long, it ends with " + length + " lines");
      }
    }
    // Only constructors and the rows of fields make arrays or objects; the calls make none.
    String[] lines = code.split("\n");
    for (String line : lines) {
      if (line.contains("new ") && !line.contains("throw new ") && !line.contains("final")) {
        say(line.contains("functions[slot] = new Table()"), "something is made: " + line);
      }
    }
  }

  public static void main(String[] args) throws Exception {
    members();
    fieldsAndClasses();
    text();
    System.out.println(wrong == 0 ? "the face is as due" : wrong + " faults of the face");
    if (wrong != 0) {
      System.exit(1);
    }
  }
}
