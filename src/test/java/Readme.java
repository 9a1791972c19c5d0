import java.io.IOException;
import java.lang.reflect.InvocationTargetException;
import java.lang.reflect.Method;
import java.lang.reflect.Modifier;
import java.nio.file.Files;
import java.nio.file.Paths;
import java.util.regex.Matcher;
import java.util.regex.Pattern;

/** What README.md shows of the class is so: each call of its example answers what stands behind it, and no call is left out. */
public final class Readme {
  private static final Pattern TOLD = Pattern.compile("tell\\(x, \"([^\"]*)\"\\);.*");
  private static final Pattern CALL = Pattern.compile("x\\.(\\w+)\\(([^)]*)\\);\\s+// (-?\\d+|true|false|throws \\w+)(:.*)?");
  private static int wrong = 0;
  private static int calls = 0;
  private static RimCoins x;

  private static void broken(String what) {
    wrong++;
    System.out.println("README.md: " + what);
  }

  /** The helper that README.md shows, as it stands there. */
  private static void tell(RimCoins x, String text) {
    x.end(0);
    int[] n = new int[5];
    for (int i = 0; i < text.length(); i += 20) {
      for (int k = 0; k < 20; k++) {
        n[k / 4] = n[k / 4] << 8 | (i + k < text.length() ? text.charAt(i + k) : 0);
      }
      x.feed(n[0], n[1], n[2], n[3], n[4]);
    }
    x.end(text.length());
  }

  private static Method face(String name) {
    for (Method m : RimCoins.class.getDeclaredMethods()) {
      if (Modifier.isPublic(m.getModifiers()) && m.getName().equals(name)) return m;
    }
    return null;
  }

  private static String answer(String name, String told) throws IllegalAccessException {
    Method m = face(name);
    String[] numbers = told.isEmpty() ? new String[0] : told.split(", ");
    if (m == null || m.getParameterCount() != numbers.length) return "no such call";
    Object[] args = new Object[numbers.length];
    for (int i = 0; i < args.length; i++) args[i] = (int) (long) Long.decode(numbers[i]);
    try {
      return String.valueOf(m.invoke(x, args));
    } catch (InvocationTargetException e) {
      return "throws " + e.getCause().getClass().getSimpleName();
    }
  }

  private static void line(String line) throws IllegalAccessException {
    Matcher told = TOLD.matcher(line);
    Matcher call = CALL.matcher(line);
    if (line.equals("RimCoins x = new RimCoins();")) {
      x = new RimCoins();
    } else if (told.matches()) {
      tell(x, told.group(1));
    } else if (call.matches()) {
      calls++;
      String got = answer(call.group(1), call.group(2));
      if (!got.equals(call.group(3))) broken(line + " -- answered " + got);
    } else if (!line.isEmpty()) {
      broken("can't be read: " + line);
    }
  }

  public static void main(String[] args) throws IOException, IllegalAccessException {
    String text = new String(Files.readAllBytes(Paths.get("README.md")), "UTF-8");
    int from = text.indexOf("RimCoins x = new RimCoins();");
    int to = text.indexOf("```", from);
    if (from < 0 || to < 0) {
      broken("no example");
      to = from = 0;
    }
    for (String line : text.substring(from, to).split("\n")) line(line.trim());
    if (calls < 48) broken("only " + calls + " calls are shown");
    for (Method m : RimCoins.class.getDeclaredMethods()) {
      if (Modifier.isPublic(m.getModifiers()) && !text.substring(from, to).contains("x." + m.getName() + "(")) broken("does not show " + m.getName());
    }
    System.out.println(wrong == 0 ? calls + " calls of README.md answer as it says" : wrong + " lines of README.md are wrong");
    if (wrong != 0) System.exit(1);
  }
}
