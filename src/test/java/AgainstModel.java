import java.lang.reflect.InvocationTargetException;
import java.lang.reflect.Method;
import java.util.ArrayList;
import java.util.List;
import java.util.Random;

/** Drawn runs of calls, each made of RimCoins and of the plain model: the answers must be alike. */
public final class AgainstModel {
  private static final Random RANDOM = new Random(20261118L);
  private static final String[] ASKED = ("who coin rim near road why pay whom exact given settle most payable keep change earned changed "
      + "steal wed born dies stuck frees cradle opens hands handAt again ever debt clear orderAt ways had days drawn trade said image "
      + "restore count fault end").split(" ");
  private static int wrong = 0;
  private static long calls = 0;
  private static RimCoins coins;
  private static ValleyModel model;
  private static List<String> log;

  private static int r(int n) { return RANDOM.nextInt(n); }

  private static Method method(Class<?> c, String name) {
    for (Method m : c.getDeclaredMethods()) if (m.getName().equals(name) && java.lang.reflect.Modifier.isPublic(m.getModifiers())) return m;
    throw new IllegalStateException(name);
  }
  private static String answer(Object o, String name, Object[] args) throws Exception {
    try {
      return String.valueOf(method(o.getClass(), name).invoke(o, args));
    } catch (InvocationTargetException e) {
      return "throws." + e.getCause().getClass().getSimpleName();
    }
  }
  private static String call(String name, int... args) {
    Object[] boxed = new Object[args.length];
    for (int i = 0; i < args.length; i++) boxed[i] = args[i];
    try {
      String got = answer(coins, name, boxed), due = answer(model, name, boxed);
      log.add(name + java.util.Arrays.toString(args) + " = " + got);
      calls++;
      if (!got.equals(due)) {
        wrong++;
        if (wrong <= 10) System.out.println(String.join("\n", log) + "\n  due: " + due);
      }
      return got;
    } catch (Exception e) {
      throw new IllegalStateException(e);
    }
  }
  private static void feed(String text) {
    int[] n = new int[5];
    for (int i = 0; i < text.length(); i += 20) {
      for (int k = 0; k < 20; k++) {
        int sign = i + k < text.length() ? text.charAt(i + k) : 0;
        n[k / 4] = n[k / 4] << 8 | sign;
      }
      call("feed", n);
    }
    call("end", text.length());
    log.add("text: " + text);
  }

  private static String pick(List<String> l) { return l.isEmpty() || r(60) == 0 ? "zz" : l.get(r(l.size())); }

  static String valleyText(int whos, int coins, boolean villages) {
    StringBuilder sb = new StringBuilder();
    List<String> names = new ArrayList<>();
    boolean rim = r(3) > 0;
    int size = rim ? r(4) : 3;
    if (rim) sb.append("rim ").append(size).append(';');
    int range = villages ? 1 + r(4) : 1;
    for (int i = 0; i < whos; i++) {
      String name = "" + (char) ('a' + i) + (r(4) == 0 ? "xy" : "");
      sb.append("who ").append(name);
      int v = r(range);
      if (v > 0 || r(4) == 0) sb.append(' ').append(v);
      sb.append(r(3) == 0 ? ";\n" : ";");
      names.add(name);
    }
    boolean[][] joined = new boolean[4][4];
    for (int i = r(4); i > 0; i--) {
      int a = r(4), b = r(4);
      if (a != b && !joined[a][b]) {
        joined[a][b] = joined[b][a] = true;
        sb.append("road ").append(a).append(' ').append(b).append(';');
      }
    }
    int high = r(3) == 0 ? 99 : 12;
    for (int i = 0; i < coins; i++) {
      sb.append("coin ").append(1 + r(high)).append(' ').append(names.isEmpty() ? "zz" : names.get(r(names.size())));
      for (int k = r(size + 1); k > 0; k--) sb.append(' ').append(names.isEmpty() ? "zz" : names.get(r(names.size())));
      sb.append(';');
    }
    if (whos > 1) for (int i = r(7); i > 0; i--) {
      int a = r(whos), b = (a + 1 + r(whos - 1)) % whos;
      sb.append("owes ").append(names.get(a)).append(' ').append(names.get(b)).append(' ').append(1 + r(15)).append(';');
    }
    for (int i = 0; i < whos; i++) if (r(3) == 0) sb.append("stranger ").append(names.get(i)).append(';');
    if (r(2) == 0) sb.append("fee ").append(1 + r(20)).append(';');
    if (r(2) == 0) sb.append("dead ").append(new String[] {"rubbed", "stays", "heirs"}[r(3)]).append(';');
    return sb.toString();
  }

  /** Some signs or pieces of a text are changed, so that it likely has a FAULT. */
  static String harmed(String text) {
    StringBuilder sb = new StringBuilder(text);
    String[] pieces = {"rim 2;", "who a;", "road 1 2;", "coin 5 a a;", "owes a b 7;", "stranger a;", "fee 3;", "dead heirs;", " or ", " 0 ", " 100 ",
      " 1234 ", "abcdefghi ", "a1 ", "\u00e9", "A", ".", "<", ">", "=", "(", ")", ";", " ", "\n", "\t", " a ", " b ", " held ", "who who;", "4", "not ", "and "};
    for (int i = 1 + r(3); i > 0; i--) {
      int at = r(sb.length() + 1);
      switch (r(4)) {
        case 0: sb.insert(at, pieces[r(pieces.length)]); break;
        case 1: if (at < sb.length()) sb.deleteCharAt(at); break;
        case 2: if (at < sb.length()) sb.setCharAt(at, "abcz059 ;(<\n".charAt(r(12))); break;
        default:
          int semi = sb.indexOf(";", at);
          sb.insert(semi < 0 ? sb.length() : semi + 1, pieces[r(9)]);
      }
    }
    return sb.toString();
  }

  static String cond(int depth, int whos) {
    StringBuilder sb = new StringBuilder();
    for (int i = r(3); i >= 0; i--) {
      for (int k = r(3); k >= 0; k--) sb.append(one(depth, whos)).append(k > 0 ? " and " : "");
      if (i > 0) sb.append(" or ");
    }
    return sb.toString();
  }
  private static String one(int depth, int whos) {
    String name = " " + (char) ('a' + r(whos + 1));
    switch (r(depth > 6 ? 7 : 11)) {
      case 0: return "held" + name;
      case 1: return "bears" + name;
      case 2: return "goes" + name;
      case 3: return "stuck";
      case 4: return "forged";
      case 5: case 6: return new String[] {"value", "names", "place"}[r(3)] + "<=>".charAt(r(3)) + r(r(2) == 0 ? 4 : 12);
      case 7: case 8: return "not " + one(depth + 1, whos);
      default: return r(3) == 0 ? "(" + cond(depth + 1, whos) + ")" : "(" + one(depth + 1, whos) + ")";
    }
  }

  private static int arg(String name, int place) {
    int wild = r(40);
    if (wild == 0) return -1;
    if (wild == 1) return new int[] {Integer.MIN_VALUE, Integer.MAX_VALUE, -2, 100, 1000, 24, 40, 32, 64}[r(9)];
    String kind = name + place;
    switch (kind) {
      case "exact2": case "settle2": case "payable1": case "keep2": case "keep4":
        return 1 + r(20);
      case "near0": case "near1": case "road0": case "road1": case "born0": case "frees0": case "trade0":
        return r(5);
      case "days0": case "trade1": return 1 + r(60);
      case "days1": case "trade2": return RANDOM.nextInt();
      case "ways2": return r(7);
      case "image0": case "restore0": return r(3);
      case "count0": return r(10);
      case "said0": case "stuck0": return r(4) - 1;
      case "end0": return r(30) - 1;
      case "clear0": case "debt0": return r(5);
      case "debt1": case "handAt0": case "had0": case "orderAt0": return r(6);
      default: return r(9);
    }
  }

  private static void asks(int whos, int n) {
    for (int i = 0; i < n; i++) {
      String name = ASKED[r(ASKED.length)];
      if ((name.equals("restore") || name.equals("days") || name.equals("dies")) && r(3) > 0) continue;
      int count = method(RimCoins.class, name).getParameterCount();
      int[] args = new int[count];
      for (int k = 0; k < count; k++) args[k] = arg(name, k);
      call(name, args);
      if (r(25) == 0) {
        StringBuilder sb = new StringBuilder();
        for (int k = r(7); k > 0; k--) sb.append((char) r(r(20) == 0 ? 256 : 6));
        feed(sb.toString());
        call("orders");
        for (int k = -1; k < 6; k++) call("orderAt", k);
      }
      if (r(25) == 0) {
        feed(cond(1, whos));
        call("sentence");
        call("fault");
        for (int k = -1; k < 4; k++) call("said", k);
      }
    }
  }

  private static void fresh() {
    coins = new RimCoins();
    model = new ValleyModel();
    log = new ArrayList<>();
  }

  private static void lives(int runs) {
    for (int run = 0; run < runs; run++) {
      fresh();
      asks(3, 5);
      for (int t = 0; t < 3; t++) {
        int whos = r(8);
        feed(valleyText(whos, whos == 0 ? 0 : r(13), r(4) > 0));
        call("valley");
        asks(whos, 120);
      }
    }
  }

  private static void texts(int runs) {
    for (int run = 0; run < runs; run++) {
      fresh();
      String text = valleyText(r(6), r(6), true);
      if (r(20) == 0) text = valleyText(17, 3, true);
      if (r(20) == 0) text = text + valleyText(5, 39, true).substring(7);
      for (int i = 0; i < 8; i++) {
        String harmed = harmed(text);
        feed(harmed.length() > 940 ? harmed.substring(0, 940) : harmed);
        call("valley");
        call("fault");
        for (int k = 0; k < 9; k++) call("count", k);
        String said = cond(1, 3);
        said = r(2) == 0 ? said : harmed(said);
        feed(said.length() > 940 ? said.substring(0, 940) : said);
        call("sentence");
        call("fault");
        call("said", -1);
        call("said", 0);
      }
    }
  }

  /** Texts about as long as may be, with a FAULT or none near the end. */
  private static void longTexts(int runs) {
    for (int run = 0; run < runs; run++) {
      fresh();
      boolean sentence = r(2) == 0;
      int limit = sentence ? 200 : 900;
      StringBuilder sb = new StringBuilder(sentence ? "stuck" : "who a;");
      while (sb.length() < limit - 12 + r(20)) {
        if (r(4) > 0) sb.append(r(2) == 0 ? ' ' : '\n');
        else if (sentence && sb.length() > limit - 40) sb.append(r(4) == 0 ? "or stuck" : "");
        else if (!sentence && sb.length() > limit - 60) sb.append(r(3) == 0 ? "coin 5 a;" : r(9) == 0 ? "owes" : "");
      }
      if (r(2) == 0) sb.append(new String[] {"who b", "who abcdefghijkl;", ";", "coin 5 a;", "coin 1234 a;", "or stuck", "fee 5;", " and", "!"}[r(9)]);
      if (r(3) == 0) for (int i = r(30); i > 0; i--) sb.append(' ');
      feed(sb.length() > 940 ? sb.substring(0, 940) : sb.toString());
      call(sentence ? "sentence" : "valley");
      call("fault");
      call("count", 1);
    }
  }

  /** Many COINS of few people: choices of up to 40 of them. */
  private static void heaps(int runs) {
    for (int run = 0; run < runs; run++) {
      fresh();
      StringBuilder sb = new StringBuilder("rim 1;who a;who b;who c;who d;");
      int n = 10 + r(31);
      int high = 2 + r(30);
      for (int i = 0; i < n; i++) {
        sb.append("coin ").append(1 + r(high)).append(" a");
        if (r(3) == 0) sb.append(' ').append("bcd".charAt(r(3)));
        sb.append(';');
      }
      feed(sb.toString());
      call("valley");
      for (int i = 0; i < 10; i++) {
        call("exact", 0, 1 + r(3), 1 + r(3 * high));
        for (int c = 0; c < n; c++) call("given", c);
        if (n < 16) {
          call("keep", 0, 1 + r(3), 1 + r(2 * high), 1 + r(3), 1 + r(2 * high));
          for (int c = 0; c < n; c++) call("given", c);
        }
        call("payable", 0, 1 + r(20));
      }
      call("settle", 0, 1, 1 + r(40));
      for (int i = 0; i < 4; i++) call("who", i, 5);
    }
  }

  /** Few people with small COINS, who owe one another and change: most of it can be paid. */
  private static void markets(int runs) {
    for (int run = 0; run < runs; run++) {
      fresh();
      int whos = 3 + r(3);
      int rim = r(3);
      StringBuilder sb = new StringBuilder("rim ").append(rim).append(';');
      for (int i = 0; i < whos; i++) sb.append("who ").append((char) ('a' + i)).append(r(4) == 0 ? " 1;" : ";");
      sb.append("road 1 0;stranger a;stranger b;fee ").append(2 + r(9)).append(';');
      int n = 6 + r(7);
      for (int i = 0; i < n; i++) {
        sb.append("coin ").append(1 + r(6)).append(' ').append((char) ('a' + r(whos)));
        if (rim > 0 && r(3) == 0) sb.append(' ').append((char) ('a' + r(whos)));
        sb.append(';');
      }
      for (int i = 0; i < 9; i++) {
        int a = r(whos), b = (a + 1 + r(whos - 1)) % whos;
        sb.append("owes ").append((char) ('a' + a)).append(' ').append((char) ('a' + b)).append(' ').append(1 + r(7)).append(';');
      }
      feed(sb.toString());
      call("valley");
      call("image", 1);
      for (int i = 0; i < 4; i++) {
        List<Integer> some = new ArrayList<>();
        for (int k = 0; k < 9; k++) some.add(k);
        java.util.Collections.shuffle(some, RANDOM);
        StringBuilder told = new StringBuilder();
        for (int k = 1 + r(5); k > 0; k--) told.append((char) (int) some.get(k));
        feed(told.toString());
        call("orders");
        for (int k = 0; k < 5; k++) call("orderAt", k);
        call("clear", some.get(1));
        for (int k = 0; k < 8; k++) {
          int a = r(whos);
          call("keep", a, r(whos), 1 + r(8), r(whos), 1 + r(8));
          for (int c = 0; c < n; c++) call("given", c);
          call("changed", r(n), r(whos));
          call("change", r(n), r(n));
          call("earned", r(2));
          call("settle", r(whos), r(whos), 1 + r(8));
        }
        for (int c = 0; c < n; c++) call("rim", c, 0);
        if (r(3) == 0) call("restore", 1);
        if (r(3) == 0) call("wed", r(whos), r(whos));
        if (r(3) == 0) call("dies", r(whos), r(whos));
      }
    }
  }

  /** Many people: long searches, of which there are few. */
  private static void crowds(int runs) {
    for (int run = 0; run < runs; run++) {
      fresh();
      StringBuilder sb = new StringBuilder();
      int rim = 1 + r(3);
      int whos = rim == 3 ? 5 + r(4) : 9 + r(8);
      sb.append("rim ").append(rim).append(';');
      for (int i = 0; i < whos; i++) sb.append("who ").append((char) ('a' + i)).append(' ').append(r(4)).append(';');
      sb.append("road 0 1;road 1 2;");
      for (int i = 0; i < 6; i++) {
        sb.append("coin 5 ").append((char) ('a' + r(whos)));
        if (r(2) == 0) sb.append(' ').append((char) ('a' + r(whos)));
        sb.append(';');
      }
      feed(sb.toString());
      call("valley");
      for (int i = rim; i < 5; i++) call("born", r(3));
      call("wed", r(whos), r(whos));
      for (int i = 0; i < 6; i++) {
        call("hands", i, r(whos));
        for (int k = 0; k < 6; k++) call("handAt", k);
        call("again", i);
        call("ever", i);
        call("ways", i, r(whos), 1 + r(4));
        for (int k = 0; k < 5; k++) call("had", k);
        call("pay", i, r(whos));
      }
      call("days", 400, RANDOM.nextInt());
      for (int k = 0; k < 3; k++) call("drawn", k);
      call("trade", r(4), 400, RANDOM.nextInt());
      call("count", 0);
    }
  }

  public static void main(String[] args) {
    int times = args.length > 0 ? Integer.parseInt(args[0]) : 1;
    lives(400 * times);
    texts(600 * times);
    longTexts(1000 * times);
    heaps(30 * times);
    markets(300 * times);
    crowds(9 * times);
    System.out.println(calls + " calls held against the model, " + wrong + " unlike");
    if (wrong != 0) System.exit(1);
  }
}
