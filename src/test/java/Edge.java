import java.io.IOException;
import java.io.UncheckedIOException;
import java.nio.file.Files;
import java.nio.file.Path;
import java.util.ArrayList;
import java.util.BitSet;
import java.util.LinkedHashMap;
import java.util.List;
import java.util.Map;

/**
 * The sentences of the document that the tests of edges quote: each quote must stand in the part
 * that it is said to be from, and no sentence of a part may be without a quote.
 */
final class Edge {
  private static final Path DOC = Path.of("../shared/DOC.md");
  private static final Map<String, String> PARTS = parts();
  private static final Map<String, BitSet> QUOTED = new LinkedHashMap<>();
  private static String label = "";

  private Edge() {
  }

  // ---- the document's parts

  private static Map<String, String> parts() {
    String doc;
    try {
      doc = Files.readString(DOC).replaceAll("```text|```", " ").replaceAll("\\s+", " ");
    } catch (IOException e) {
      throw new UncheckedIOException(e);
    }
    Map<String, String> parts = new LinkedHashMap<>();
    // The first lines are one long sentence: each of its clauses is to be quoted.
    String[] clauses = between(doc, "## What it is ", " ==== 1.").split("; ");
    for (int i = 0; i < clauses.length; i++) {
      parts.put("First lines " + (i + 1), clauses[i]);
    }
    parts.put("What it is", between(doc, "==== 1. ", " ## The public face"));
    parts.put("Terms", between(doc, "## Terms ", " ==== 2. "));
    parts.put("2", between(doc, " ==== 2. ", " ==== 3. "));
    parts.put("3", between(doc, " ==== 3. ", " ==== 4. "));
    parts.put("4", between(doc, " ==== 4. ", " The constants: "));
    parts.put("Constants", between(doc, " The constants: ", " ## Promise 1:"));
    for (int promise = 1; promise <= 35; promise++) {
      String next = promise == 35 ? " ## Not promised" : " ## Promise " + (promise + 1) + ":";
      String part = between(doc, "## Promise " + promise + ": ", next);
      parts.put("Promise " + promise, part.substring(part.indexOf("`: ") + 3));
    }
    return parts;
  }

  private static String between(String doc, String from, String to) {
    int start = doc.indexOf(from) + from.length();
    int end = doc.indexOf(to, start);
    if (doc.indexOf(from) < 0 || end < 0) {
      throw new IllegalStateException("the document has no part between " + from + " and " + to);
    }
    return doc.substring(start, end).trim();
  }

  // ---- quotes

  /** What is due from here on is so by these words. */
  static void by(String part, String words) {
    label = part + ": " + words;
    String text = PARTS.getOrDefault(part, "");
    int at = text.indexOf(words);
    Check.same("stands in the document: " + label, at >= 0, true);
    QUOTED.computeIfAbsent(part, p -> new BitSet()).set(Math.max(at, 0), Math.max(at, 0) + words.length());
  }

  /** A dot behind a blank or another dot ends none: "0, 1 .." goes on. */
  private static List<int[]> sentences(String text) {
    List<int[]> all = new ArrayList<>();
    int from = 0;
    for (int i = 1; i < text.length(); i++) {
      boolean ends = text.charAt(i) == '.' && text.charAt(i - 1) != '.' && text.charAt(i - 1) != ' ';
      if (ends || i == text.length() - 1) {
        all.add(new int[] {from, i + 1});
        from = Math.min(i + 2, text.length());
      }
    }
    return all;
  }

  static void allQuoted() {
    for (Map.Entry<String, String> part : PARTS.entrySet()) {
      BitSet quoted = QUOTED.getOrDefault(part.getKey(), new BitSet());
      for (int[] s : sentences(part.getValue())) {
        String sentence = part.getValue().substring(s[0], s[1]);
        boolean found = !quoted.get(s[0], s[1]).isEmpty();
        Check.same(part.getKey() + ": a test quotes: " + sentence, found, true);
      }
    }
  }

  // ---- what is due

  static void due(String what, Check.Call call, Object want) {
    Check.due("[" + label + "] " + what, call, want);
  }

  static void missing(String what, Check.Call call) {
    due(what, call, "throws.NoSuchElementException");
  }

  static void unfit(String what, Check.Call call) {
    due(what, call, "throws.IllegalArgumentException");
  }

  /** A text on a new object, its FAULT and where that is. */
  static void fault(String text, int number, int place) {
    HummedTunes x = new HummedTunes();
    due("hills: " + text, () -> Check.tell(x, text), number);
    due("fault: " + text, x::fault, place);
  }

  static void good(String text) {
    fault(text, 0, -1);
  }

  /** A refused call answers NONE, is counted in one STATUS (12 to 14), and changes nothing else. */
  static void refused(String what, HummedTunes x, int status, Check.Call call) {
    String before = state(x);
    int[] counts = {x.count(12), x.count(13), x.count(14)};
    counts[status - 12]++;
    due(what, call, -1);
    for (int i = 0; i < 3; i++) {
      int which = 12 + i;
      due(what + ": count(" + which + ")", () -> x.count(which), counts[i]);
    }
    due(what + ": nothing else changes", () -> state(x), before);
  }

  /** A call that throws changes nothing at all. */
  static void throwsOnly(String what, HummedTunes x, String exception, Check.Call call) {
    String before = state(x) + x.count(12) + " " + x.count(13) + " " + x.count(14);
    due(what, call, "throws." + exception);
    due(what + ": nothing changes", () -> state(x) + x.count(12) + " " + x.count(13) + " " + x.count(14), before);
  }

  /** All that can be asked of now, but for STATUS. */
  static String state(HummedTunes x) {
    StringBuilder b = new StringBuilder("fault " + x.fault() + " counts");
    for (int what = 0; what < 12; what++) {
      b.append(' ').append(x.count(what));
    }
    for (int p = 0; p < x.count(0); p++) {
      b.append(" person");
      for (int what = 0; what < 10; what++) {
        b.append(' ').append(x.person(p, what));
      }
      b.append(' ').append(x.then(p, 9, 0));
    }
    for (int t = 0; t < x.count(1); t++) {
      b.append(" tune ").append(x.tune(t, 0)).append(' ').append(x.tune(t, 1)).append(' ').append(x.tune(t, 2));
    }
    return b.append(" deep ").append(x.deep(0)).append(' ').append(x.deep(1)).append(' ').toString();
  }

  static String times(int many, String text) {
    return text.repeat(many);
  }
}
