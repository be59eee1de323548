import java.io.IOException;
import java.lang.management.ManagementFactory;
import java.lang.reflect.Constructor;
import java.lang.reflect.Field;
import java.lang.reflect.Method;
import java.lang.reflect.Modifier;
import java.nio.file.Files;
import java.nio.file.Path;
import java.util.Arrays;
import java.util.HashMap;
import java.util.HashSet;
import java.util.Map;
import java.util.Set;
import java.util.TreeSet;
import java.util.regex.Matcher;
import java.util.regex.Pattern;

/** The class's face, what of Java its source uses, and that its calls make no objects. */
public final class FormTest {
  private static final Path SOURCE = Path.of("src/main/java/HummedTunes.java");

  private FormTest() {
  }

  public static void main(String[] args) throws IOException {
    face();
    classesInside();
    source();
    methods();
    depth();
    room();
    Check.end("FormTest");
  }

  private static void face() {
    Set<String> want = new TreeSet<>(Arrays.asList(
        "int feed(int, int, int, int, int)", "int hills(int) IllegalArgumentException", "int fault()",
        "int count(int) NoSuchElementException", "int person(int, int) NoSuchElementException",
        "int tune(int, int) NoSuchElementException", "int hours(int)", "int hush(int) NoSuchElementException",
        "int cough(int) NoSuchElementException", "int sell(int, int) NoSuchElementException",
        "int go(int, int) NoSuchElementException", "int undo()",
        "int then(int, int, int) NoSuchElementException IllegalArgumentException",
        "int whose(int, int, int) NoSuchElementException IllegalArgumentException",
        "int gets(int, int) NoSuchElementException",
        "int silent(int, int) NoSuchElementException IllegalArgumentException",
        "int loudest(int) IllegalArgumentException",
        "int later(int, int) NoSuchElementException IllegalArgumentException",
        "int hums(int, int) NoSuchElementException", "int farthest(int) NoSuchElementException",
        "int toBreathe(int, int, int) NoSuchElementException IllegalArgumentException",
        "int toStand(int, int, int) NoSuchElementException IllegalArgumentException",
        "int toHush(int, int) NoSuchElementException IllegalArgumentException",
        "int without(int, int) NoSuchElementException IllegalArgumentException",
        "int round(int) NoSuchElementException", "int see(int, int, int) NoSuchElementException",
        "int deep(int) NoSuchElementException", "int look(int) NoSuchElementException", "void forget()",
        "int thunder(int, int, int, int) NoSuchElementException IllegalArgumentException",
        "int game(int, int, int) NoSuchElementException IllegalArgumentException",
        "int years(int, int, int) NoSuchElementException IllegalArgumentException",
        "void image()", "boolean restore()"));
    Set<String> got = new TreeSet<>();
    Set<String> names = new HashSet<>();
    for (Method m : HummedTunes.class.getDeclaredMethods()) {
      if (!Modifier.isPrivate(m.getModifiers())) {
        Check.same("public " + m, Modifier.toString(m.getModifiers()), "public");
        got.add(signature(m));
        names.add(m.getName());
      }
    }
    Check.same("the face", got, want);
    for (Method m : HummedTunes.class.getDeclaredMethods()) {
      Check.same("a private one of a public name: " + m, Modifier.isPrivate(m.getModifiers()) && names.contains(m.getName()), false);
    }
    for (Class<?> inner : HummedTunes.class.getDeclaredClasses()) {
      for (Method m : inner.getDeclaredMethods()) {
        Check.same("a public name inside: " + m, names.contains(m.getName()), false);
      }
    }
    for (Constructor<?> c : HummedTunes.class.getDeclaredConstructors()) {
      Check.same("the constructor", c.toString(), "public HummedTunes()");
    }
    for (Field f : HummedTunes.class.getDeclaredFields()) {
      Check.same("field " + f.getName(), Modifier.isPrivate(f.getModifiers()), !f.getName().equals("NONE"));
    }
    Check.same("the class", Modifier.toString(HummedTunes.class.getModifiers()), "public final");
  }

  private static String signature(Method m) {
    StringBuilder b = new StringBuilder(m.getReturnType() + " " + m.getName() + "(");
    for (int i = 0; i < m.getParameterCount(); i++) {
      b.append(i == 0 ? "" : ", ").append(m.getParameterTypes()[i]);
    }
    b.append(")");
    for (Class<?> e : m.getExceptionTypes()) {
      b.append(' ').append(e.getSimpleName());
    }
    return b.toString();
  }

  private static void classesInside() {
    Class<?>[] inside = HummedTunes.class.getDeclaredClasses();
    Check.same("twelve classes at most", inside.length < 12, true);
    for (Class<?> c : inside) {
      Check.same(c + " is static", Modifier.isStatic(c.getModifiers()), true);
      fields(c);
    }
    fields(HummedTunes.class);
  }

  private static void fields(Class<?> c) {
    int many = 0;
    for (Field f : c.getDeclaredFields()) {
      boolean isStatic = Modifier.isStatic(f.getModifiers());
      many += isStatic ? 0 : 1;
      Check.same("static and not final: " + f, isStatic && !Modifier.isFinal(f.getModifiers()), false);
    }
    Check.same("fields of " + c + ": " + many, many <= 20, true);
  }

  private static String plainSource() throws IOException {
    String text = Files.readString(SOURCE);
    return text.replaceAll("(?s)/\\*.*?\\*/", "").replaceAll("//[^\n]*", "").replaceAll("\"[^\"\n]*\"", "\"\"").replaceAll("'.'", "' '");
  }

  private static void source() throws IOException {
    String text = plainSource();
    String[] never = {"\\btry\\b", "\\bcatch\\b", "\\bfinally\\b", "\\bsynchronized\\b", "\\bassert\\b", "->", "::", "\\bdouble\\b",
        "\\bfloat\\b", "Exact\\b", "\\bprotected\\b", "\\bstatic\\s*\\{", "@", "\\bThread\\b", "hashCode", "toString", "\\bpackage\\b"};
    for (String word : never) {
      Check.same("never " + word, Pattern.compile(word).matcher(text).find(), false);
    }
    allAmong(text, "import ([^;]*);", "java.util.NoSuchElementException");
    allAmong(text, "\\bSystem\\.(\\w+)", "arraycopy");
    allAmong(text, "\\bMath\\.(\\w+)", "abs max min");
    allAmong(text, "\\bInteger\\.(\\w+)", "bitCount");
    allAmong(text, "throw new (\\w+)\\(\\)", "NoSuchElementException IllegalArgumentException");
    allAmong(text, "\\bnew (\\w+)\\b", "byte int boolean Facts Reader Reckoner Scene Hearing Ways Book NoSuchElementException IllegalArgumentException");
    Check.same("signs of the source are 10 to 126", Files.readString(SOURCE).chars().allMatch(c -> c == 10 || c >= 32 && c < 127), true);
  }

  private static void allAmong(String text, String pattern, String allowed) {
    Set<String> fine = new HashSet<>(Arrays.asList(allowed.split(" ")));
    Matcher m = Pattern.compile(pattern).matcher(text);
    while (m.find()) {
      Check.same("allowed: " + m.group(), fine.contains(m.group(1)), true);
    }
  }

  /** A method stands between a line with a parameter list and the brace that is set in as far. */
  private static void methods() throws IOException {
    String[] lines = plainSource().split("\n");
    Pattern head = Pattern.compile("^( {4}| {8})\\S.*\\(([^)]*)\\).*\\{$");
    int many = 0;
    for (int i = 0; i < lines.length; i++) {
      Matcher m = head.matcher(lines[i]);
      if (m.matches()) {
        many++;
        int end = i;
        while (!lines[end].equals(m.group(1) + "}")) {
          end++;
        }
        Check.same("lines of " + lines[i].trim(), end - i < 60, true);
        Check.same("parameters of " + lines[i].trim(), m.group(2).split(",").length <= 7, true);
      }
    }
    Check.same("methods were found", many > 100, true);
  }

  // ---- how deep calls go

  /** Each method's name with the names that its body calls; methods of one name count as one. */
  private static Map<String, Set<String>> callsByName() throws IOException {
    Map<String, Set<String>> calls = new HashMap<>();
    Pattern head = Pattern.compile("^( {4}| {8})\\S.*?(\\w+)\\([^)]*\\).*\\{$");
    Pattern call = Pattern.compile("\\b(\\w+)\\(");
    String[] lines = plainSource().split("\n");
    for (int i = 0; i < lines.length; i++) {
      Matcher m = head.matcher(lines[i]);
      if (m.matches()) {
        Set<String> called = calls.computeIfAbsent(m.group(2), n -> new HashSet<>());
        for (int at = i + 1; !lines[at].equals(m.group(1) + "}"); at++) {
          Matcher c = call.matcher(lines[at]);
          while (c.find()) {
            called.add(c.group(1));
          }
        }
      }
    }
    return calls;
  }

  /** How many calls stand open at once at most, each method once: a recursion counts by its members. */
  private static int depthOf(String name, Map<String, Set<String>> calls, Set<String> open) {
    int most = 0;
    open.add(name);
    for (String called : calls.get(name)) {
      if (calls.containsKey(called) && !open.contains(called)) {
        most = Math.max(most, depthOf(called, calls, open));
      }
    }
    open.remove(name);
    return most + 1;
  }

  private static void depth() throws IOException {
    Map<String, Set<String>> calls = callsByName();
    int deepest = 0;
    for (String name : calls.keySet()) {
      int depth = depthOf(name, calls, new HashSet<>());
      deepest = Math.max(deepest, depth);
      Check.same("calls from " + name + " go " + depth + " deep", depth <= 8, true);
    }
    Check.same("calls were found", deepest > 4, true);
  }

  // ---- the room

  private static void room() {
    com.sun.management.ThreadMXBean beans = (com.sun.management.ThreadMXBean) ManagementFactory.getThreadMXBean();
    long id = Thread.currentThread().getId();
    HummedTunes x = crowd();
    callAll(x);
    long before = beans.getThreadAllocatedBytes(id);
    callAll(x);
    long between = beans.getThreadAllocatedBytes(id);
    HummedTunes y = new HummedTunes();
    long after = beans.getThreadAllocatedBytes(id);
    Check.same("calls make nothing: " + (between - before), between - before < 512, true);
    Check.same("an object makes little: " + (after - between), after - between < 60000, true);
    Check.same("it is new", y.count(0), 0);
  }

  private static HummedTunes crowd() {
    StringBuilder b = new StringBuilder();
    for (int i = 0; i < 8; i++) {
      b.append("whistler ").append(3 + i).append(" 0 ").append(3 * i).append(" 9;");
    }
    for (int i = 0; i < 6; i++) {
      b.append("tune ").append(i).append(" of ").append(i).append(';');
    }
    b.append("stops ((((hummed-3)*with-(air/2))))<0-hour and not tunes=5;joins 9-far-(with*(1+(tunes<2)));");
    return Check.told(b.toString());
  }

  private static void callAll(HummedTunes x) {
    x.feed(0x65617273, 0x686f7420, 0x3330203b, 0x20202020, 0);
    for (int i = 0; i < 15; i++) {
      x.count(i);
    }
    x.hours(2);
    x.cough(0);
    x.hush(1);
    x.sell(0, 1);
    x.go(1, 1);
    x.go(1, 2);
    x.image();
    x.see(0, 0, 19);
    x.deep(0);
    x.look(0);
    x.forget();
    x.then(0, 60, 0);
    x.whose(0, 60, 0);
    x.gets(0, 0);
    x.silent(0, 60);
    x.loudest(60);
    x.later(60, 1);
    x.hums(0, 7);
    x.farthest(0);
    x.toBreathe(0, 0, 60);
    x.toStand(0, 60, 0);
    x.toHush(0, 60);
    x.without(0, 60);
    x.round(-1);
    x.thunder(0, 0, 5, 5);
    x.game(0, 1, 0);
    x.years(7, 60, 0);
    x.undo();
    x.restore();
  }
}
