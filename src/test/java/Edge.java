import java.io.IOException;
import java.nio.file.Files;
import java.nio.file.Path;
import java.nio.file.Paths;
import java.util.NoSuchElementException;
import java.util.Set;
import java.util.TreeSet;

/** What the tests of boundaries share: each names a sentence of the document and its promise's number. */
final class Edge {
  static final int[] NO_PLACES = {-1, -2, 64, 100, 1 << 24, Integer.MAX_VALUE, Integer.MIN_VALUE};
  private static final Set<Integer> PROMISES = new TreeSet<>();
  private static String document;
  private static int promise;
  private static String sentence;
  private static int edges = 0;
  private static int wrong = 0;
  private static boolean told;

  private Edge() { }

  /** One sentence: its test runs at once, and what goes wrong in it is told under the sentence. */
  static void edge(int number, String words, Runnable test) {
    promise = number;
    sentence = words;
    told = false;
    edges++;
    PROMISES.add(number);
    if (!isOfDocument()) broken("the document does not say this there");
    try {
      test.run();
    } catch (RuntimeException e) {
      broken("threw " + e);
    }
  }

  private static void broken(String what) {
    if (!told) System.out.println("promise " + promise + ", \"" + sentence + "\":");
    told = true;
    wrong++;
    System.out.println("  " + what);
  }

  static void load() throws IOException {
    Path path = Paths.get("../shared/DOC.md");
    if (Files.exists(path)) document = new String(Files.readAllBytes(path), "UTF-8");
    else System.out.println("no " + path + ": whether it says these sentences is not looked at");
  }

  /** The sentence stands under its promise's heading, or ahead of all promises. */
  private static boolean isOfDocument() {
    if (document == null) return true;
    int terms = document.indexOf("## Promise 1:");
    int from = document.indexOf("## Promise " + promise + ":");
    int next = document.indexOf("\n## ", from + 1);
    return document.substring(0, terms).contains(sentence) || document.substring(from, next).contains(sentence);
  }

  /** True, if all hold and no promise is without a boundary. */
  static boolean closes() {
    for (int p = 1; p <= 48; p++) {
      if (!PROMISES.contains(p)) {
        wrong++;
        System.out.println("promise " + p + " has no boundary");
      }
    }
    System.out.println(wrong == 0 ? edges + " boundaries hold" : wrong + " answers at boundaries are not as due");
    return wrong == 0;
  }

  static void due(long due, long got, String what) {
    if (due != got) broken(what + " answered " + got + ", due is " + due);
  }
  static void yes(boolean got, String what) { due(1, got ? 1 : 0, what); }
  static void no(boolean got, String what) { due(0, got ? 1 : 0, what); }

  interface Asked { int ask(); }
  static void none(Asked call, String what) {
    try {
      broken(what + " answered " + call.ask() + ", due is NoSuchElementException");
    } catch (NoSuchElementException e) {
      return;
    }
  }

  static RimCoins good(int lines, String text) {
    RimCoins x = Promises.feed(new RimCoins(), text);
    due(lines, x.valley(), "valley() of '" + text + "'");
    due(0, x.fault(), "fault() of '" + text + "'");
    return x;
  }
  static void fault(int kind, int place, String text) {
    RimCoins x = Promises.feed(new RimCoins(), text);
    due(-1 - place, x.valley(), "valley() of '" + text + "'");
    due(kind, x.fault(), "fault() of '" + text + "'");
  }

  static final String SPOKEN_OF = "who a;who b;who abcdefgh;coin 5 a;";
  static RimCoins says(int ones, String text) {
    RimCoins x = Promises.feed(Promises.of(SPOKEN_OF), text);
    due(ones, x.sentence(), "sentence() of '" + text + "'");
    due(0, x.fault(), "fault() of '" + text + "'");
    return x;
  }
  static void unsaid(int kind, int place, String text) {
    RimCoins x = Promises.feed(Promises.of(SPOKEN_OF), text);
    due(-1 - place, x.sentence(), "sentence() of '" + text + "'");
    due(kind, x.fault(), "fault() of '" + text + "'");
    due(-1, x.said(-1), "said(-1) behind '" + text + "'");
  }

  static String blanks(int n) { return Promises.many(" ", n); }

  /** All that can be asked of a VALLEY and its SENTENCE. */
  static String state(RimCoins x) {
    StringBuilder sb = new StringBuilder();
    for (int i = 0; i < 8; i++) sb.append(x.count(i)).append(' ');
    for (int w = 0; w < x.count(0); w++) {
      sb.append("\nWHO ").append(w).append(": ").append(x.earned(w));
      for (int what = 0; what < 6; what++) sb.append(' ').append(x.who(w, what));
    }
    for (int c = 0; c < x.count(1); c++) {
      sb.append("\nCOIN ").append(c).append(':');
      for (int what = 0; what < 5; what++) sb.append(' ').append(x.coin(c, what));
      for (int i = 0; i < 3; i++) sb.append(' ').append(x.rim(c, i));
    }
    for (int k = 0; k < x.count(2); k++) {
      sb.append("\nDEBT ").append(k).append(':');
      for (int what = 0; what < 4; what++) sb.append(' ').append(x.debt(k, what));
    }
    for (int a = 0; a < 4; a++) for (int b = 0; b < 4; b++) sb.append(x.near(a, b));
    int n = x.said(-1);
    for (int k = -1; k < n; k++) sb.append(' ').append(x.said(k));
    return sb.toString();
  }
  static void alike(RimCoins x, RimCoins y, String what) {
    String got = state(x), due = state(y);
    if (!got.equals(due)) broken(what + ": the VALLEY is\n" + got + "\nbut due is\n" + due);
  }
}
