import java.nio.charset.StandardCharsets;

/** Counts answers that are not as due; a call that throws answers "throws." and the exception's name. */
final class Check {
  interface Call {
    Object answer();
  }

  private static final int MOST_SHOWN = 40;

  private static int asked = 0;
  private static int wrong = 0;

  private Check() {
  }

  static Object outcome(Call call) {
    try {
      return call.answer();
    } catch (RuntimeException e) {
      return "throws." + e.getClass().getSimpleName();
    }
  }

  static void due(String what, Call call, Object want) {
    same(what, outcome(call), want);
  }

  static void missing(String what, Call call) {
    due(what, call, "throws.NoSuchElementException");
  }

  static void unfit(String what, Call call) {
    due(what, call, "throws.IllegalArgumentException");
  }

  static void same(String what, Object got, Object want) {
    asked++;
    if (!want.equals(got)) {
      wrong++;
      if (wrong <= MOST_SHOWN) {
        System.out.println(what + " answered " + got + ", due is " + want);
      }
    }
  }

  static int wrong() {
    return wrong;
  }

  static void end(String name) {
    System.out.println(name + ": " + asked + " answers, " + wrong + " not as due");
    if (wrong != 0 || asked == 0) {
      System.exit(1);
    }
  }

  /** Twenty bytes of a text from a place on, behind its end blanks; which number of the five. */
  static int fourBytes(String text, int at) {
    byte[] bytes = text.getBytes(StandardCharsets.ISO_8859_1);
    int four = 0;
    for (int i = at; i < at + 4; i++) {
      four = four << 8 | (i < bytes.length ? bytes[i] & 255 : ' ');
    }
    return four;
  }

  static void feed(HummedTunes x, String text) {
    for (int at = 0; at < text.length(); at += 20) {
      x.feed(fourBytes(text, at), fourBytes(text, at + 4), fourBytes(text, at + 8),
          fourBytes(text, at + 12), fourBytes(text, at + 16));
    }
  }

  static int tell(HummedTunes x, String text) {
    feed(x, text);
    return x.hills(text.length());
  }

  static HummedTunes told(String text) {
    HummedTunes x = new HummedTunes();
    same("hills: " + text, tell(x, text), 0);
    return x;
  }
}
