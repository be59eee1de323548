import java.io.IOException;
import java.lang.reflect.InvocationTargetException;
import java.lang.reflect.Method;
import java.lang.reflect.Modifier;
import java.nio.file.Files;
import java.nio.file.Path;
import java.util.HashMap;
import java.util.Map;
import java.util.regex.Matcher;
import java.util.regex.Pattern;

/** What README.md says: its calls answer so, its function feeds a text, and it names every call. */
public final class ReadmeTest {
  private static final Pattern ROW = Pattern.compile("(?m)^x\\.(\\w+)\\(([^)]*)\\); *// (throws (\\w+)|-?\\d+)");

  private ReadmeTest() {
  }

  public static void main(String[] args) throws Exception {
    String readme = Files.readString(Path.of("README.md"));
    Map<String, Method> face = face();
    calls(readme, face);
    function(readme);
    for (String name : face.keySet()) {
      Check.same("README.md names " + name, readme.contains("`" + name + "`"), true);
    }
    Check.end("ReadmeTest");
  }

  private static Map<String, Method> face() {
    Map<String, Method> face = new HashMap<>();
    for (Method m : HummedTunes.class.getDeclaredMethods()) {
      if (Modifier.isPublic(m.getModifiers())) {
        face.put(m.getName(), m);
      }
    }
    return face;
  }

  private static void calls(String readme, Map<String, Method> face) throws IllegalAccessException {
    HummedTunes x = new HummedTunes();
    Matcher row = ROW.matcher(readme);
    int rows = 0;
    while (row.find()) {
      rows++;
      String want = row.group(4) == null ? row.group(3) : row.group(4);
      Check.same(row.group(), answer(x, face.get(row.group(1)), row.group(2)), want);
    }
    Check.same("every row with an answer is made", rows, readme.split("\nx\\.", -1).length - 1);
    Check.same("rows were found", rows > 10, true);
  }

  private static String answer(HummedTunes x, Method call, String listed) throws IllegalAccessException {
    String[] words = listed.isEmpty() ? new String[0] : listed.split(", ");
    Object[] numbers = new Object[words.length];
    for (int i = 0; i < words.length; i++) {
      numbers[i] = Long.decode(words[i]).intValue();
    }
    try {
      return String.valueOf(call.invoke(x, numbers));
    } catch (InvocationTargetException e) {
      return e.getCause().getClass().getSimpleName();
    }
  }

  /** The function stands below as on the page, set in by two. */
  private static void function(String readme) throws IOException {
    int from = readme.indexOf("static int tell(");
    String shown = readme.substring(from, readme.indexOf("```", from)).trim();
    String own = Files.readString(Path.of("src/test/java/ReadmeTest.java"));
    Check.same("the function of README.md", own.contains("\n  " + shown.replace("\n", "\n  ") + "\n"), true);
    String text = "person 3 9 0 1;person 5 1 4 0;tune 4 of 0;joins far<6;";
    for (int length = 0; length <= 700; length++) {
      // A text that is cut, or goes on with blanks, is as the tests' own way of feeding reads it.
      String cut = (text + " ".repeat(700)).substring(0, length);
      HummedTunes x = new HummedTunes();
      HummedTunes y = new HummedTunes();
      Check.same("hills of " + length, tell(x, cut), Check.tell(y, cut));
      Check.same("state of " + length, Edge.state(x), Edge.state(y));
    }
  }

  static int tell(HummedTunes x, String text) {
    int[] four = new int[175];
    for (int i = 0; i < text.length(); i++) {
      four[i / 4] |= text.charAt(i) << 24 - i % 4 * 8;
    }
    for (int i = 0; i * 4 < text.length(); i += 5) {
      x.feed(four[i], four[i + 1], four[i + 2], four[i + 3], four[i + 4]);
    }
    return x.hills(text.length());
  }
}
