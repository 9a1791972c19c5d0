import java.util.ArrayDeque;
import java.util.ArrayList;
import java.util.Arrays;
import java.util.HashMap;
import java.util.HashSet;
import java.util.LinkedHashMap;
import java.util.LinkedHashSet;
import java.util.List;
import java.util.Map;
import java.util.NoSuchElementException;
import java.util.Set;
import java.util.regex.Matcher;
import java.util.regex.Pattern;

/** The document told once more, as plainly and slowly as can be, to be held against RimCoins. */
public final class ValleyModel {
  static final class Who {
    String name = "";
    int village;
    boolean dead;
    boolean stranger;
    int spouse = -1;
    int earned;
    Who copy() { Who w = new Who(); w.name = name; w.village = village; w.dead = dead; w.stranger = stranger; w.spouse = spouse; w.earned = earned; return w; }
  }
  static final class Coin {
    int value;
    int owner;
    List<Integer> rim = new ArrayList<>();
    Coin copy() { Coin c = new Coin(); c.value = value; c.owner = owner; c.rim = new ArrayList<>(rim); return c; }
    List<Integer> state() { List<Integer> s = new ArrayList<>(); s.add(owner); s.addAll(rim); return s; }
  }
  static final class Debt {
    int from, to, sum;
    boolean cleared;
    Debt copy() { Debt d = new Debt(); d.from = from; d.to = to; d.sum = sum; d.cleared = cleared; return d; }
  }
  /** A ONE or what joins two: asked of a COIN. */
  interface Cond { boolean of(World w, Coin c); }
  static final class World {
    List<Who> whos = new ArrayList<>();
    List<Coin> coins = new ArrayList<>();
    List<Debt> debts = new ArrayList<>();
    boolean[][] roads = new boolean[4][4];
    int rim = 3, fee = 8, law = 1;
    Cond sentence;
    World copy() {
      World w = new World();
      for (Who x : whos) w.whos.add(x.copy());
      for (Coin x : coins) w.coins.add(x.copy());
      for (Debt x : debts) w.debts.add(x.copy());
      for (int i = 0; i < 4; i++) w.roads[i] = roads[i].clone();
      w.rim = rim; w.fee = fee; w.law = law; w.sentence = sentence;
      return w;
    }
    boolean near(int a, int b) { return a == b || roads[a][b] || roads[b][a]; }
    boolean sameHouse(int a, int b) { return a == b || whos.get(a).spouse == b; }
    int why(Coin c, int w) {
      if (whos.get(w).dead) return 1;
      if (sameHouse(c.owner, w)) return 2;
      for (int n : c.rim) if (sameHouse(n, w)) return 3;
      return near(whos.get(w).village, whos.get(c.owner).village) ? 0 : 4;
    }
    void move(Coin c, int w) {
      c.rim.add(0, c.owner);
      while (c.rim.size() > rim) c.rim.remove(c.rim.size() - 1);
      c.owner = w;
    }
    List<Integer> goers(Coin c) {
      List<Integer> l = new ArrayList<>();
      for (int w = 0; w < whos.size(); w++) if (why(c, w) == 0) l.add(w);
      return l;
    }
    int forged(Coin c) {
      int bits = 0;
      if (new HashSet<>(c.rim).size() < c.rim.size()) bits |= 1;
      if (c.rim.contains(c.owner)) bits |= 2;
      List<Integer> s = c.state();
      for (int i = 1; i < s.size(); i++) if (!near(whos.get(s.get(i - 1)).village, whos.get(s.get(i)).village)) bits |= 4;
      return bits;
    }
    List<Integer> stuck() {
      List<Integer> l = new ArrayList<>();
      for (int c = 0; c < coins.size(); c++) if (goers(coins.get(c)).isEmpty()) l.add(c);
      return l;
    }
    int freed(int v) {
      World w = copy();
      Who child = new Who();
      child.village = v;
      w.whos.add(child);
      int n = 0;
      for (int c : stuck()) if (w.why(w.coins.get(c), w.whos.size() - 1) == 0) n++;
      return n;
    }
    List<Integer> exact(int a, int b, int sum) {
      List<Integer> can = new ArrayList<>();
      for (int c = 0; c < coins.size(); c++) if (coins.get(c).owner == a && why(coins.get(c), b) == 0) can.add(c);
      List<List<Integer>> best = new ArrayList<>();
      exactFrom(can, 0, sum, new ArrayList<>(), best);
      return best.isEmpty() ? null : best.get(0);
    }
    private void exactFrom(List<Integer> can, int i, int left, List<Integer> now, List<List<Integer>> best) {
      if (!best.isEmpty() && now.size() >= best.get(0).size()) return;
      if (left == 0) { best.clear(); best.add(new ArrayList<>(now)); return; }
      if (left < 0 || i == can.size()) return;
      now.add(can.get(i));
      exactFrom(can, i + 1, left - coins.get(can.get(i)).value, now, best);
      now.remove(now.size() - 1);
      exactFrom(can, i + 1, left, now, best);
    }
    List<Integer> settle(int a, int b, int sum) {
      List<Integer> given = exact(a, b, sum);
      if (given != null) for (int c : given) move(coins.get(c), b);
      return given;
    }
    List<Integer> keep(int a, int b, int n, int c, int m) {
      List<Integer> own = new ArrayList<>();
      for (int i = 0; i < coins.size(); i++) if (coins.get(i).owner == a) own.add(i);
      List<List<Integer>> best = new ArrayList<>();
      keepFrom(own, 0, n, b, c, m, new ArrayList<>(), best);
      return best.isEmpty() ? null : best.get(0);
    }
    private void keepFrom(List<Integer> own, int i, int left, int b, int c, int m, List<Integer> now, List<List<Integer>> best) {
      if (left < 0) return;
      if (i == own.size()) {
        if (left != 0 || !best.isEmpty() && now.size() >= best.get(0).size()) return;
        List<Integer> kept = new ArrayList<>(own);
        kept.removeAll(now);
        kept.removeIf(x -> why(coins.get(x), c) != 0);
        if (comes(kept, 0, m)) { best.clear(); best.add(new ArrayList<>(now)); }
        return;
      }
      if (why(coins.get(own.get(i)), b) == 0) {
        now.add(own.get(i));
        keepFrom(own, i + 1, left - coins.get(own.get(i)).value, b, c, m, now, best);
        now.remove(now.size() - 1);
      }
      keepFrom(own, i + 1, left, b, c, m, now, best);
    }
    private boolean comes(List<Integer> kept, int i, int left) {
      if (left == 0) return true;
      if (left < 0 || i == kept.size()) return false;
      return comes(kept, i + 1, left - coins.get(kept.get(i)).value) || comes(kept, i + 1, left);
    }
    int whyNoChange(int c, int d) {
      Coin x = coins.get(c), y = coins.get(d);
      if (!whos.get(y.owner).stranger) return 1;
      if (why(x, y.owner) != 0) return 2;
      if (why(y, x.owner) != 0) return 3;
      int fee = x.value / this.fee + (x.value % this.fee == 0 ? 0 : 1);
      return y.value > x.value - fee ? 4 : 0;
    }
    void change(int c, int d) {
      Coin x = coins.get(c), y = coins.get(d);
      int a = x.owner, s = y.owner;
      whos.get(s).earned += x.value - y.value;
      move(x, s);
      move(y, a);
    }
    Coin gone(Coin c, int w) { Coin d = c.copy(); move(d, w); return d; }
  }

  private byte[] tape = new byte[0];
  private World world = new World();
  private int fault;
  private int faultPlace;
  private List<Integer> given;
  private int givenAmong;
  private List<Integer> hands = new ArrayList<>();
  private List<Integer> order = new ArrayList<>();
  private List<Set<Integer>> had = new ArrayList<>();
  private int[] drawn;
  private final World[] places = new World[2];
  private int x;

  private boolean isWho(int w) { return w >= 0 && w < world.whos.size(); }
  private boolean isCoin(int c) { return c >= 0 && c < world.coins.size(); }
  private static boolean isVillage(int v) { return v >= 0 && v < 4; }
  private static int bits(Iterable<Integer> l) { int b = 0; for (int i : l) b |= 1 << i; return b; }

  public int feed(int a, int b, int c, int d, int e) {
    if (tape.length + 20 > 940) return -1;
    byte[] more = Arrays.copyOf(tape, tape.length + 20);
    int at = tape.length;
    for (int n : new int[] {a, b, c, d, e}) for (int s = 3; s >= 0; s--) more[at++] = (byte) (n >> 8 * s);
    tape = more;
    return tape.length;
  }
  public boolean end(int n) {
    if (n < 0 || n > tape.length) return false;
    tape = Arrays.copyOf(tape, n);
    return true;
  }

  // ---- texts

  static final class Token { char sort; int place; String text; }
  static final class Fault extends RuntimeException {
    final int kind, place;
    Fault(int kind, int place) { super(null, null, false, false); this.kind = kind; this.place = place; }
  }
  private static final Set<String> WORDS = new HashSet<>(Arrays.asList(("rim who road coin owes stranger fee dead rubbed stays heirs "
      + "or and not held bears goes stuck forged value names place").split(" ")));
  private List<Token> tokens;
  private int at;

  private void tokenize(int limit) {
    StringBuilder sb = new StringBuilder();
    for (byte b : tape) sb.append((char) (b & 255));
    String text = sb.toString();
    tokens = new ArrayList<>();
    at = 0;
    Matcher m = Pattern.compile("[a-z0-9]+|[ \n]+|[\\x00-\\xff]", Pattern.DOTALL).matcher(text);
    while (m.find()) {
      String s = m.group();
      if (s.matches("[ \n]+")) continue;
      Token t = new Token();
      t.place = m.start();
      t.text = s;
      t.sort = s.matches("[a-z]{1,8}") ? 'w' : s.matches("[0-9]{1,3}") ? 'n' : s.matches("[;<=>().]") ? s.charAt(0) : '?';
      if (t.place >= limit) break;
      tokens.add(t);
    }
    Token end = new Token();
    end.text = "";
    end.sort = text.length() > limit ? '?' : 'e';
    end.place = Math.min(text.length(), limit);
    tokens.add(end);
  }
  private Token peek() { return tokens.get(at); }
  private Token take(char sort) {
    Token t = peek();
    if (t.sort != sort) throw new Fault(1, t.place);
    at++;
    return t;
  }
  private int number(int low, int high) {
    Token t = take('n');
    int n = Integer.parseInt(t.text);
    if (n < low || n > high) throw new Fault(2, t.place);
    return n;
  }
  private Token name() {
    Token t = take('w');
    if (WORDS.contains(t.text)) throw new Fault(1, t.place);
    return t;
  }
  private static int find(World w, String s) {
    for (int i = 0; i < w.whos.size(); i++) if (w.whos.get(i).name.equals(s)) return i;
    return -1;
  }
  private int known(World w) {
    Token t = name();
    int i = find(w, t.text);
    if (i < 0) throw new Fault(3, t.place);
    return i;
  }
  private int lastPlace() { return tokens.get(at - 1).place; }

  public int valley() {
    tokenize(900);
    tape = new byte[0];
    World w = new World();
    Set<String> once = new HashSet<>();
    int lines = 0;
    try {
      while (peek().sort != 'e') {
        line(w, once);
        take(';');
        lines++;
      }
    } catch (Fault f) {
      fault = f.kind;
      return -1 - f.place;
    }
    fault = 0;
    world = w;
    return lines;
  }
  private void line(World w, Set<String> once) {
    Token t = take('w');
    int p = t.place;
    switch (t.text) {
      case "rim": case "fee": case "dead":
        if (!once.add(t.text)) throw new Fault(3, p);
        if (t.text.equals("rim")) {
          if (!w.coins.isEmpty()) throw new Fault(3, p);
          w.rim = number(0, 3);
        } else if (t.text.equals("fee")) w.fee = number(1, 99);
        else {
          Token law = take('w');
          int i = Arrays.asList("rubbed", "stays", "heirs").indexOf(law.text);
          if (i < 0) throw new Fault(1, law.place);
          w.law = i;
        }
        return;
      case "who": {
        if (w.whos.size() == 16) throw new Fault(4, p);
        Token n = name();
        if (find(w, n.text) >= 0) throw new Fault(3, n.place);
        Who x = new Who();
        x.name = n.text;
        w.whos.add(x);
        if (peek().sort == 'n') x.village = number(0, 3);
        return;
      }
      case "road": {
        int a = number(0, 3), b = number(0, 3);
        if (w.near(a, b)) throw new Fault(3, lastPlace());
        w.roads[a][b] = true;
        return;
      }
      case "coin": {
        if (w.coins.size() == 40) throw new Fault(4, p);
        Coin c = new Coin();
        c.value = number(1, 99);
        c.owner = known(w);
        while (peek().sort == 'w') {
          int n = known(w);
          if (c.rim.size() == w.rim) throw new Fault(4, lastPlace());
          c.rim.add(n);
        }
        w.coins.add(c);
        return;
      }
      case "owes": {
        if (w.debts.size() == 12) throw new Fault(4, p);
        Debt d = new Debt();
        d.from = known(w);
        d.to = known(w);
        if (d.from == d.to) throw new Fault(3, lastPlace());
        d.sum = number(1, 999);
        w.debts.add(d);
        return;
      }
      case "stranger": {
        Who x = w.whos.get(known(w));
        if (x.stranger) throw new Fault(3, lastPlace());
        x.stranger = true;
        return;
      }
      default:
        throw new Fault(1, p);
    }
  }

  private int ones;
  public int sentence() {
    tokenize(200);
    tape = new byte[0];
    ones = 0;
    try {
      Cond c = cond(1);
      take('e');
      world.sentence = c;
    } catch (Fault f) {
      fault = f.kind;
      return -1 - f.place;
    }
    fault = 0;
    return ones;
  }
  private boolean skip(String word) {
    boolean is = peek().text.equals(word);
    if (is) at++;
    return is;
  }
  private Cond cond(int depth) {
    List<Cond> l = new ArrayList<>();
    do l.add(all(depth)); while (skip("or"));
    return (w, c) -> { for (Cond x : l) if (x.of(w, c)) return true; return false; };
  }
  private Cond all(int depth) {
    List<Cond> l = new ArrayList<>();
    do l.add(one(depth)); while (skip("and"));
    return (w, c) -> { for (Cond x : l) if (!x.of(w, c)) return false; return true; };
  }
  private Cond one(int depth) {
    Token t = peek();
    if (!t.text.matches("\\(|not|held|bears|goes|stuck|forged|value|names|place")) throw new Fault(1, t.place);
    if (ones == 20 || depth == 9) throw new Fault(4, t.place);
    ones++;
    at++;
    switch (t.text) {
      case "(": { Cond in = cond(depth + 1); take(')'); return in; }
      case "not": { Cond in = one(depth + 1); return (w, c) -> !in.of(w, c); }
      case "held": { int n = known(world); return (w, c) -> c.owner == n; }
      case "bears": { int n = known(world); return (w, c) -> c.rim.contains(n); }
      case "goes": { int n = known(world); return (w, c) -> w.why(c, n) == 0; }
      case "stuck": return (w, c) -> w.goers(c).isEmpty();
      case "forged": return (w, c) -> w.forged(c) != 0;
      default: break;
    }
    Token s = peek();
    if (!s.text.matches("[<=>]")) throw new Fault(1, s.place);
    at++;
    int n = Integer.parseInt(take('n').text);
    return (w, c) -> {
      int v = t.text.equals("value") ? c.value : t.text.equals("names") ? c.rim.size() : w.whos.get(c.owner).village;
      return s.text.equals("<") ? v < n : s.text.equals("=") ? v == n : v > n;
    };
  }
  public int fault() { return fault; }

  // ---- asking and going

  public int who(int w, int what) {
    if (!isWho(w) || what < 0 || what > 5) throw new NoSuchElementException();
    Who x = world.whos.get(w);
    int n = 0, sum = 0;
    for (Coin c : world.coins) if (c.owner == w) { n++; sum += c.value; }
    return new int[] {x.village, x.spouse < 0 ? w : Math.min(w, x.spouse), x.dead ? 1 : 0, x.stranger ? 1 : 0, n, sum}[what];
  }
  public int coin(int c, int what) {
    if (!isCoin(c) || what < 0 || what > 4) throw new NoSuchElementException();
    Coin x = world.coins.get(c);
    return new int[] {x.value, x.owner, x.rim.size(), world.goers(x).size(), world.forged(x)}[what];
  }
  public int rim(int c, int i) {
    if (!isCoin(c) || i < 0 || i >= world.coins.get(c).rim.size()) return -1;
    return world.coins.get(c).rim.get(i);
  }
  public int near(int a, int b) { return isVillage(a) && isVillage(b) ? world.near(a, b) ? 1 : 0 : -1; }
  public boolean road(int a, int b) {
    if (!isVillage(a) || !isVillage(b) || world.near(a, b)) return false;
    world.roads[b][a] = true;
    return true;
  }
  public int why(int c, int w) { return isCoin(c) && isWho(w) ? world.why(world.coins.get(c), w) : -1; }
  public int pay(int c, int w) {
    int y = why(c, w);
    if (y == 0) world.move(world.coins.get(c), w);
    return y;
  }
  public int whom(int c) { return isCoin(c) ? bits(world.goers(world.coins.get(c))) : -1; }
  private int tell(List<Integer> g) {
    if (g == null) return -1;
    given = g;
    givenAmong = world.coins.size();
    return g.size();
  }
  private boolean sumAsTold(int a, int b, int sum) { return isWho(a) && isWho(b) && sum >= 1 && sum <= 999; }
  public int exact(int a, int b, int sum) { return sumAsTold(a, b, sum) ? tell(world.exact(a, b, sum)) : -2; }
  public int given(int c) { return given == null || c < 0 || c >= givenAmong ? -1 : given.contains(c) ? 1 : 0; }
  public int settle(int a, int b, int sum) { return sumAsTold(a, b, sum) ? tell(world.settle(a, b, sum)) : -2; }
  public int most(int a, int b) {
    if (!isWho(a) || !isWho(b)) return -1;
    int n = 0;
    for (Coin c : world.coins) if (c.owner == a && world.why(c, b) == 0) n += c.value;
    return n;
  }
  public int payable(int a, int sum) {
    if (!sumAsTold(a, a, sum)) return -1;
    List<Integer> l = new ArrayList<>();
    for (int b = 0; b < world.whos.size(); b++) if (world.exact(a, b, sum) != null) l.add(b);
    return bits(l);
  }
  public int keep(int a, int b, int n, int c, int m) {
    if (!isWho(a) || !isWho(b) || !isWho(c) || n < 1 || n > 99 || m < 1 || m > 99) return -2;
    return tell(world.keep(a, b, n, c, m));
  }
  public int change(int c, int d) {
    if (!isCoin(c) || !isCoin(d)) return -1;
    int y = world.whyNoChange(c, d);
    if (y == 0) world.change(c, d);
    return y;
  }
  public int earned(int w) { return isWho(w) ? world.whos.get(w).earned : -1; }
  public int changed(int c, int b) {
    if (!isCoin(c) || !isWho(b)) return -1;
    int best = -1;
    for (int d = world.coins.size() - 1; d >= 0; d--) {
      if (world.whyNoChange(c, d) != 0) continue;
      World w = world.copy();
      w.change(c, d);
      if (w.why(w.coins.get(d), b) != 0) continue;
      if (best < 0 || world.coins.get(d).value >= world.coins.get(best).value) best = d;
    }
    return best;
  }
  public boolean steal(int w, int c) {
    if (!isWho(w) || !isCoin(c) || world.coins.get(c).owner == w || world.whos.get(w).dead) return false;
    world.coins.get(c).owner = w;
    return true;
  }
  public boolean wed(int a, int b) {
    if (!isWho(a) || !isWho(b) || a == b) return false;
    for (int w : new int[] {a, b}) if (world.whos.get(w).dead || world.whos.get(w).spouse >= 0) return false;
    world.whos.get(a).spouse = b;
    world.whos.get(b).spouse = a;
    return true;
  }
  public int born(int v) {
    if (!isVillage(v) || world.whos.size() == 24) return -1;
    Who x = new Who();
    x.village = v;
    world.whos.add(x);
    return world.whos.size() - 1;
  }
  public int dies(int w, int heir) {
    if (!isWho(w) || !isWho(heir) || w == heir || world.whos.get(w).dead || world.whos.get(heir).dead) return -1;
    int n = 0;
    for (Coin c : world.coins) {
      if (c.owner == w) { c.owner = heir; n++; }
      if (world.law == 0) c.rim.removeIf(i -> i == w);
      if (world.law == 2) c.rim.replaceAll(i -> i == w ? heir : i);
    }
    world.whos.get(w).dead = true;
    return n;
  }
  public int stuck(int k) {
    List<Integer> l = world.stuck();
    return k == -1 ? l.size() : k >= 0 && k < l.size() ? l.get(k) : -1;
  }
  public int frees(int v) { return isVillage(v) ? world.freed(v) : -1; }
  public int cradle() {
    int best = 3;
    for (int v = 2; v >= 0; v--) if (world.freed(v) >= world.freed(best)) best = v;
    return best;
  }
  public int opens() {
    int best = -1, least = 1000;
    for (int a = 0; a < 4; a++) for (int b = a + 1; b < 4; b++) {
      if (world.near(a, b)) continue;
      World w = world.copy();
      w.roads[a][b] = true;
      if (w.stuck().size() < least) { least = w.stuck().size(); best = a * 10 + b; }
    }
    return best;
  }

  // ---- searches

  private static Coin of(List<Integer> state) {
    Coin c = new Coin();
    c.owner = state.get(0);
    c.rim = new ArrayList<>(state.subList(1, state.size()));
    return c;
  }
  private List<List<Integer>> nexts(List<Integer> state) {
    List<List<Integer>> l = new ArrayList<>();
    for (int w : world.goers(of(state))) l.add(world.gone(of(state), w).state());
    return l;
  }
  /** Rows of WHOS by states, in the order in which they are found. */
  private List<Integer> rowTo(List<Integer> start, java.util.function.Predicate<List<Integer>> goal) {
    Map<List<Integer>, List<Integer>> level = new LinkedHashMap<>();
    Set<List<Integer>> seen = new HashSet<>();
    level.put(start, new ArrayList<>());
    while (!level.isEmpty()) {
      Map<List<Integer>, List<Integer>> next = new LinkedHashMap<>();
      List<Integer> best = null;
      for (Map.Entry<List<Integer>, List<Integer>> e : level.entrySet()) for (List<Integer> s : nexts(e.getKey())) {
        List<Integer> row = new ArrayList<>(e.getValue());
        row.add(s.get(0));
        if (goal.test(s) && (best == null || less(row, best))) best = row;
        if (seen.contains(s)) continue;
        if (!next.containsKey(s) || less(row, next.get(s))) next.put(s, row);
      }
      if (best != null) return best;
      seen.addAll(next.keySet());
      level = next;
    }
    return null;
  }
  private static boolean less(List<Integer> a, List<Integer> b) {
    for (int i = 0; i < a.size(); i++) if (!a.get(i).equals(b.get(i))) return a.get(i) < b.get(i);
    return false;
  }
  public int hands(int c, int w) {
    if (!isCoin(c) || !isWho(w)) return -1;
    Coin x = world.coins.get(c);
    List<Integer> row = x.owner == w ? new ArrayList<>() : rowTo(x.state(), s -> s.get(0) == w);
    if (row == null) return -1;
    hands = row;
    return row.size();
  }
  public int handAt(int i) { return i >= 0 && i < hands.size() ? hands.get(i) : -1; }
  public int again(int c) {
    if (!isCoin(c)) return -1;
    List<Integer> start = world.coins.get(c).state();
    List<Integer> row = rowTo(start, s -> s.equals(start));
    return row == null ? -1 : row.size();
  }
  public int ever(int c) {
    if (!isCoin(c)) return -1;
    Map<List<Integer>, List<List<Integer>>> after = new HashMap<>();
    ArrayDeque<List<Integer>> todo = new ArrayDeque<>();
    todo.add(world.coins.get(c).state());
    while (!todo.isEmpty()) {
      List<Integer> s = todo.poll();
      if (after.containsKey(s)) continue;
      after.put(s, nexts(s));
      todo.addAll(after.get(s));
    }
    // What has no way on is taken away, till nothing more can be: rounds stay.
    boolean less = true;
    while (less) {
      Set<List<Integer>> ends = new LinkedHashSet<>();
      for (Map.Entry<List<Integer>, List<List<Integer>>> e : after.entrySet()) {
        boolean on = false;
        for (List<Integer> n : e.getValue()) on |= after.containsKey(n);
        if (!on) ends.add(e.getKey());
      }
      less = !ends.isEmpty();
      after.keySet().removeAll(ends);
    }
    return after.isEmpty() ? 0 : 1;
  }
  public int debt(int k, int what) {
    if (k < 0 || k >= world.debts.size() || what < 0 || what > 3) throw new NoSuchElementException();
    Debt d = world.debts.get(k);
    return new int[] {d.from, d.to, d.sum, d.cleared ? 1 : 0}[what];
  }
  public int clear(int k) {
    if (k < 0 || k >= world.debts.size() || world.debts.get(k).cleared) return -2;
    Debt d = world.debts.get(k);
    List<Integer> g = world.settle(d.from, d.to, d.sum);
    if (g == null) return -1;
    d.cleared = true;
    return g.size();
  }
  public int orders() {
    List<Integer> told = new ArrayList<>();
    for (byte b : tape) told.add(b & 255);
    tape = new byte[0];
    if (told.isEmpty() || told.size() > 5 || new HashSet<>(told).size() < told.size()) return -1;
    for (int k : told) if (k >= world.debts.size() || world.debts.get(k).cleared) return -1;
    List<List<Integer>> all = new ArrayList<>();
    permute(told, new ArrayList<>(), all);
    int best = -1;
    for (List<Integer> o : all) {
      World w = world.copy();
      int n = 0;
      for (int k : o) {
        Debt d = w.debts.get(k);
        if (w.settle(d.from, d.to, d.sum) != null) n++;
      }
      if (n > best) { best = n; order = o; }
    }
    return best;
  }
  private static void permute(List<Integer> told, List<Integer> now, List<List<Integer>> all) {
    if (now.size() == told.size()) { all.add(new ArrayList<>(now)); return; }
    for (int k : told) if (!now.contains(k)) {
      now.add(k);
      permute(told, now, all);
      now.remove(now.size() - 1);
    }
  }
  public int orderAt(int i) { return i >= 0 && i < order.size() ? order.get(i) : -1; }
  public int ways(int c, int first, int n) {
    if (!isCoin(c) || !isWho(first) || n < 1 || n > 5) return -1;
    had = new ArrayList<>();
    for (int i = 0; i < n; i++) had.add(new HashSet<>());
    Coin x = new Coin();
    x.owner = first;
    return waysFrom(x, n, new ArrayList<>(), world.coins.get(c).state());
  }
  private int waysFrom(Coin x, int n, List<Integer> row, List<Integer> goal) {
    if (row.size() == n) {
      if (!x.state().equals(goal)) return 0;
      for (int i = 0; i < n; i++) had.get(i).add(row.get(i));
      return 1;
    }
    int sum = 0;
    for (int w : world.goers(x)) {
      row.add(w);
      sum += waysFrom(world.gone(x, w), n, row, goal);
      row.remove(row.size() - 1);
    }
    return sum;
  }
  public int had(int i) { return i >= 0 && i < had.size() ? bits(had.get(i)) : -1; }

  private int draw(int n) {
    x = x * 1103515245 + 12345;
    return (x >>> 8) % n;
  }
  /** 1: it went, 0: it did not, -1: he had nothing. */
  private int payDay(World w, int a, int b) {
    List<Coin> own = new ArrayList<>();
    for (Coin c : w.coins) if (c.owner == a) own.add(c);
    if (own.isEmpty()) return -1;
    Coin c = own.get(draw(own.size()));
    if (w.why(c, b) != 0) return 0;
    w.move(c, b);
    return 1;
  }
  public int days(int n, int seed) {
    if (n < 1 || n > 400 || world.whos.isEmpty() || world.coins.isEmpty()) return -1;
    x = seed;
    int went = 0;
    drawn = new int[3];
    for (int i = 0; i < n; i++) {
      int a = draw(world.whos.size()), b = draw(world.whos.size());
      int p = payDay(world, a, b);
      if (p == 1) went++;
      if (p == 0) drawn[0]++;
      if (draw(16) == 0 && born(world.whos.get(a).village) >= 0) drawn[1]++;
      if (draw(16) == 0) {
        int t = draw(world.whos.size()), c = draw(world.coins.size());
        if (steal(t, c)) drawn[2]++;
      }
    }
    return went;
  }
  public int drawn(int what) { return drawn == null || what < 0 || what > 2 ? -1 : drawn[what]; }
  public int trade(int r, int n, int seed) {
    if (r < 0 || r > 3 || n < 1 || n > 400 || world.whos.isEmpty() || world.coins.isEmpty()) return -1;
    World w = world.copy();
    w.rim = r;
    for (Coin c : w.coins) while (c.rim.size() > r) c.rim.remove(c.rim.size() - 1);
    x = seed;
    int went = 0;
    for (int i = 0; i < n; i++) {
      int a = draw(w.whos.size()), b = draw(w.whos.size());
      if (payDay(w, a, b) == 1) went++;
    }
    return went;
  }
  public int said(int k) {
    if (world.sentence == null) return -1;
    List<Integer> l = new ArrayList<>();
    for (int c = 0; c < world.coins.size(); c++) if (world.sentence.of(world, world.coins.get(c))) l.add(c);
    return k == -1 ? l.size() : k >= 0 && k < l.size() ? l.get(k) : -1;
  }
  public boolean image(int k) {
    if (k != 0 && k != 1) return false;
    places[k] = world.copy();
    return true;
  }
  public boolean restore(int k) {
    if (k != 0 && k != 1 || places[k] == null) return false;
    world = places[k].copy();
    return true;
  }
  public int count(int what) {
    int roads = 0, strangers = 0;
    for (int a = 0; a < 4; a++) for (int b = a + 1; b < 4; b++) if (world.near(a, b)) roads++;
    for (Who w : world.whos) if (w.stranger) strangers++;
    int[] all = {world.whos.size(), world.coins.size(), world.debts.size(), world.rim, world.fee, world.law, roads, strangers, tape.length};
    return what >= 0 && what < all.length ? all[what] : -1;
  }
}
