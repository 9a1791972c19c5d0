import java.io.IOException;
import java.lang.reflect.Constructor;
import java.lang.reflect.Field;
import java.lang.reflect.Method;
import java.lang.reflect.Modifier;
import java.nio.file.Files;
import java.nio.file.Paths;
import java.util.ArrayList;
import java.util.Arrays;
import java.util.HashSet;
import java.util.List;
import java.util.Set;
import java.util.TreeSet;
import java.util.regex.Matcher;
import java.util.regex.Pattern;

/** The document's face, and those rules of LANGUAGE.md that can be seen from outside or read from the text. */
public final class Rules {
  private static final String[] FACE = ("int feed(int,int,int,int,int) boolean end(int) int valley() int fault() int who(int,int)! int coin(int,int)! "
      + "int rim(int,int) int near(int,int) boolean road(int,int) int why(int,int) int pay(int,int) int whom(int) int exact(int,int,int) "
      + "int given(int) int settle(int,int,int) int most(int,int) int payable(int,int) int keep(int,int,int,int,int) int change(int,int) "
      + "int earned(int) int changed(int,int) boolean steal(int,int) boolean wed(int,int) int born(int) int dies(int,int) int stuck(int) "
      + "int frees(int) int cradle() int opens() int hands(int,int) int handAt(int) int again(int) int ever(int) int debt(int,int)! "
      + "int clear(int) int orders() int orderAt(int) int ways(int,int,int) int had(int) int days(int,int) int drawn(int) "
      + "int trade(int,int,int) int sentence() int said(int) boolean image(int) boolean restore(int) int count(int)")
      .split(" (?=int |boolean )");
  private static int wrong = 0;

  private static void broken(String what) {
    wrong++;
    System.out.println(what);
  }

  private static void face() {
    Class<?> c = RimCoins.class;
    if (!Modifier.isFinal(c.getModifiers()) || !Modifier.isPublic(c.getModifiers())) broken("the class is not public and final");
    Set<String> got = new TreeSet<>();
    Set<String> names = new HashSet<>();
    for (Method m : c.getDeclaredMethods()) {
      if (Modifier.isPrivate(m.getModifiers()) || m.isSynthetic()) continue;
      List<String> types = new ArrayList<>();
      for (Class<?> t : m.getParameterTypes()) types.add(t.getName());
      got.add(m.getReturnType() + " " + m.getName() + "(" + String.join(",", types) + ")" + (m.getExceptionTypes().length > 0 ? "!" : ""));
      names.add(m.getName());
    }
    if (!got.equals(new TreeSet<>(Arrays.asList(FACE)))) broken("the methods are " + got);
    List<Class<?>> all = new ArrayList<>(Arrays.asList(c.getDeclaredClasses()));
    if (all.size() > 12) broken("classes: " + all.size());
    all.add(c);
    for (Class<?> k : all) {
      int fields = 0;
      for (Method m : k.getDeclaredMethods()) {
        if (Modifier.isPrivate(m.getModifiers()) && names.contains(m.getName())) broken("private " + m);
        if (m.getParameterCount() > 7) broken("parameters of " + m);
      }
      for (Field f : k.getDeclaredFields()) {
        if (Modifier.isStatic(f.getModifiers()) && !Modifier.isFinal(f.getModifiers())) broken("static " + f);
        if (!Modifier.isStatic(f.getModifiers())) fields++;
        if (k == c && !Modifier.isPrivate(f.getModifiers()) && !f.getName().equals("NONE")) broken("open " + f);
      }
      if (fields > 20) broken("fields of " + k + ": " + fields);
      if (k != c && !Modifier.isStatic(k.getModifiers())) broken("not static: " + k);
    }
    Constructor<?>[] made = c.getDeclaredConstructors();
    if (made.length != 1 || made[0].getParameterCount() != 0 || !Modifier.isPublic(made[0].getModifiers())) broken("constructors");
    if (RimCoins.NONE != -1) broken("NONE");
  }

  private static void text() throws IOException {
    String whole = new String(Files.readAllBytes(Paths.get("src/main/java/RimCoins.java")), "UTF-8");
    String code = whole.replaceAll("(?s)/\\*.*?\\*/", "").replaceAll("//[^\n]*", "").replaceAll("\"[^\"\n]*\"", "\"\"").replaceAll("'[^']'", "''");
    String[] banned = {"->", "::", "\\bcatch\\b", "\\btry\\b", "\\bfinally\\b", "\\bsynchronized\\b", "\\bassert\\b", "\\binstanceof\\b", "\\bSystem\\.(?!arraycopy)",
      "\\bRandom\\b", "\\bThread\\b", "\\bString\\.", "\"\" *\\+", "\\+ *\"\"", "Exact\\(", "\\bpackage\\b", "\\bordinal\\b", "\\bdouble\\b", "\\bfloat\\b", "static *\\{"};
    for (String b : banned) if (Pattern.compile(b).matcher(code).find()) broken("in the text: " + b);
    for (char sign : whole.toCharArray()) if (sign > 126 || sign < 32 && sign != 10) broken("sign " + (int) sign);
    Matcher m = Pattern.compile("(?m)^( {4}| {8})(?! )[^;{}]*\\) (throws \\w+ )?\\{\n(?:(?!\\1\\}\n).*\n)*\\1\\}").matcher(code);
    int seen = 0;
    while (m.find()) {
      seen++;
      int lines = m.group().split("\n").length;
      if (lines > 60) broken(lines + " lines: " + m.group().split("\n")[0].trim());
    }
    if (seen < 100) broken("methods found: " + seen);
  }

  public static void main(String[] args) throws IOException {
    face();
    text();
    System.out.println(wrong == 0 ? "all rules hold" : wrong + " rules are broken");
    if (wrong != 0) System.exit(1);
  }
}
