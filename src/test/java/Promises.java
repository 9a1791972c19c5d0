import java.util.NoSuchElementException;

/** Each promise by its number: ordinary calls, the edges that the document names, and wrong calls. */
public final class Promises {
  private static int promise;
  private static int wrong = 0;

  private static void is(long due, long got, String what) {
    if (due != got) {
      wrong++;
      System.out.println("promise " + promise + ": " + what + " answered " + got + ", due is " + due);
    }
  }
  private static void yes(boolean got, String what) { is(1, got ? 1 : 0, what); }
  private static void no(boolean got, String what) { is(0, got ? 1 : 0, what); }

  interface Asked { int ask(); }
  private static void none(Asked call, String what) {
    try {
      int got = call.ask();
      wrong++;
      System.out.println("promise " + promise + ": " + what + " answered " + got + ", due is NoSuchElementException");
    } catch (NoSuchElementException e) {
      return;
    }
  }

  static RimCoins feed(RimCoins x, String text) {
    int[] n = new int[5];
    for (int i = 0; i < text.length(); i += 20) {
      for (int k = 0; k < 20; k++) n[k / 4] = n[k / 4] << 8 | (i + k < text.length() ? text.charAt(i + k) : 0);
      x.feed(n[0], n[1], n[2], n[3], n[4]);
    }
    x.end(text.length());
    return x;
  }
  static RimCoins of(String text) {
    RimCoins x = feed(new RimCoins(), text);
    int lines = x.valley();
    if (lines < 0) throw new IllegalStateException(text + ": " + lines + ", " + x.fault());
    return x;
  }
  private static void fault(int kind, int place, String text) {
    RimCoins x = feed(new RimCoins(), text);
    is(-1 - place, x.valley(), "valley '" + text + "'");
    is(kind, x.fault(), "fault of '" + text + "'");
  }
  private static void sentenceFault(int kind, int place, String text) {
    RimCoins x = feed(of("who a;who b;coin 5 a;"), text);
    is(-1 - place, x.sentence(), "sentence '" + text + "'");
    is(kind, x.fault(), "fault of '" + text + "'");
    is(-1, x.said(-1), "said behind '" + text + "'");
  }
  static String many(String piece, int n) {
    StringBuilder sb = new StringBuilder();
    for (int i = 0; i < n; i++) sb.append(piece);
    return sb.toString();
  }
  static String people(int n) {
    StringBuilder sb = new StringBuilder();
    for (int i = 0; i < n; i++) sb.append("who ").append((char) ('a' + i)).append(';');
    return sb.toString();
  }
  static int orders(RimCoins x, int... debts) {
    StringBuilder sb = new StringBuilder();
    for (int d : debts) sb.append((char) d);
    return feed(x, sb.toString()).orders();
  }

  private static void p1() {
    RimCoins x = new RimCoins();
    int[] due = {0, 0, 0, 3, 8, 1, 0, 0, 0};
    for (int i = 0; i < due.length; i++) is(due[i], x.count(i), "count " + i + " of a new object");
    is(0, x.fault(), "fault");
    is(-1, x.said(-1), "said");
    for (int a = 0; a < 4; a++) for (int b = 0; b < 4; b++) is(a == b ? 1 : 0, x.near(a, b), "near");
  }
  private static void p2() {
    RimCoins x = new RimCoins();
    is(20, x.feed(0x77686f20, 0x613b0000, 0, 0, 0), "feed");
    for (int i = 2; i <= 47; i++) is(20 * i, x.feed(-1, 0, 0, 0, 0), "feed");
    is(-1, x.feed(0, 0, 0, 0, 0), "feed of a full tape");
    is(940, x.count(8), "bytes");
    yes(x.end(921), "end");
    is(-1, x.feed(0, 0, 0, 0, 0), "feed with 921");
    yes(x.end(920), "end");
    is(940, x.feed(0, 0, 0, 0, 0), "feed with 920");
    yes(x.end(6), "end");
    is(1, x.valley(), "what was fed first");
  }
  private static void p3() {
    RimCoins x = new RimCoins();
    yes(x.end(0), "end of nothing");
    no(x.end(1), "end above");
    x.feed(0, 0, 0, 0, 0);
    no(x.end(-1), "end below 0");
    no(x.end(21), "end above");
    is(20, x.count(8), "bytes");
    yes(x.end(20), "end of all");
    yes(x.end(7), "end");
    no(x.end(8), "end of what was cut off");
    is(7, x.count(8), "bytes");
  }
  private static void p4() {
    RimCoins x = of("who a;who b 1;\n rim 2;coin 7 b a;");
    is(2, x.count(0), "WHOS");
    is(0, x.count(8), "tape behind valley");
    is(-5, feed(x, "who 5;").valley(), "a FAULT");
    is(0, x.count(8), "tape behind a FAULT");
    is(2, x.count(0), "WHOS stay");
    is(7, x.coin(0, 0), "COINS stay");
    x.wed(0, 1);
    x.road(0, 1);
    feed(x, "stuck").sentence();
    is(2, feed(x, "who c;who d;").valley(), "a new one");
    is(-1, x.said(-1), "its SENTENCE");
    is(0, x.count(6), "its roads");
    is(0, x.who(0, 1), "its HOUSES");
    is(1, x.who(1, 1), "its HOUSES");
    is(3, x.count(3), "its rim");
    is(0, x.valley(), "an empty one");
    is(0, x.count(0), "nobody");
    is(2, feed(x, "who a;fee\n9;").valley(), "blanks");
    is(4, feed(x, "who abcdefgh 003;coin 099 abcdefgh;dead heirs;stranger abcdefgh;").valley(), "the longest");
    is(3, x.who(0, 0), "VILLAGE");
    is(99, x.coin(0, 0), "VALUE");
    is(16 + 40 + 12, feed(x, people(16) + many("coin 1 a;", 40) + many("owes a b 1;", 12)).valley(), "the most");
    is(1, feed(x, "who a;" + many(" ", 894)).valley(), "900 bytes");
  }
  private static void p5() {
    is(0, new RimCoins().fault(), "fault ahead of any");
    fault(1, 0, ";");
    fault(1, 0, "!");
    fault(1, 0, "5");
    fault(1, 0, "who5 a;");
    fault(1, 0, "held a;");
    fault(1, 0, "foo;");
    fault(1, 4, "who abcdefghi;");
    fault(1, 4, "who a1;");
    fault(1, 4, "who A;");
    fault(1, 4, "who stays;");
    fault(1, 3, "who;");
    fault(1, 3, "who\tb;");
    fault(1, 6, "who a stranger;");
    fault(1, 8, "who a 1 2;");
    fault(1, 5, "who a");
    fault(1, 6, "who a . ;");
    fault(1, 3, "rim;");
    fault(1, 4, "rim 0003;");
    fault(2, 4, "rim 4;");
    fault(2, 6, "who a 4;");
    fault(2, 5, "road 4 1;");
    fault(2, 7, "road 1 9;");
    fault(2, 7, "road 1 4;");
    fault(1, 6, "road 1;");
    fault(3, 7, "road 2 2;");
    fault(3, 16, "road 1 2;road 2 1;");
    fault(3, 10, "who a;who a;");
    fault(2, 11, "who a;coin 0 a;");
    fault(2, 11, "who a;coin 100 a;");
    fault(1, 12, "who a;coin 5;");
    fault(3, 13, "who a;coin 5 b;who b;");
    fault(1, 13, "who a;coin 5 who;");
    fault(1, 15, "who a;coin 5 a 1;");
    fault(4, 21, "who a;coin 5 a a a a a;");
    fault(3, 21, "who a;coin 5 a a a a b;");
    fault(1, 21, "who a;coin 5 a a a a or;");
    fault(4, 21, "rim 0;who a;coin 5 a a;");
    fault(3, 15, "who a;coin 5 a;rim 2;");
    fault(3, 6, "rim 2;rim 2;");
    fault(3, 6, "fee 2;fee;");
    fault(3, 11, "dead stays;dead stays;");
    fault(2, 4, "fee 0;");
    fault(2, 4, "fee 100;");
    fault(1, 5, "dead a;");
    fault(1, 5, "dead who;");
    fault(1, 10, "dead stays");
    fault(3, 13, "who a;owes a a 1;");
    fault(3, 13, "who a;owes a b 1;");
    fault(2, 21, "who a;who b;owes a b 0;");
    fault(1, 21, "who a;who b;owes a b 1000;");
    is(6, feed(new RimCoins(), "who a;who b;owes a b 999;fee 99;rim 0;dead heirs;").valley(), "ends of numbers");
    fault(1, 20, "who a;who b;owes a b;");
    fault(3, 26, "who a;stranger a;stranger a;");
    fault(3, 15, "who a;stranger b;");
    fault(3, 9, "stranger a;who a;");
    fault(1, 9, "stranger 5;");
    RimCoins x = feed(new RimCoins(), "zz");
    x.valley();
    is(1, x.fault(), "fault");
    feed(x, "who a;").valley();
    is(0, x.fault(), "no fault");
  }
  private static void limits() {
    fault(4, 16 * 6, people(16) + "who");
    fault(4, 6 + 40 * 9, "who a;" + many("coin 1 a;", 40) + "coin 1 a;");
    fault(4, 12 + 12 * 11, "who a;who b;" + many("owes a b 1;", 12) + "owes a b 1;");
    fault(1, 900, "who a;" + many(" ", 895));
    fault(1, 900, "who a;" + many(" ", 893) + "who");
    fault(1, 894, "who a;" + many(" ", 888) + "abcdefghij;");
    fault(3, 898, "who a;" + many(" ", 888) + "who a;");
    fault(1, 900, "who a;" + many(" ", 890) + "who b;");
    fault(1, 899, "who abcdefgh;" + many(" ", 886) + "whoa;");
    fault(3, 899, "who abcdefgh;" + many(" ", 882) + "who abcdefgh;");
    fault(2, 899, "who abcdefgh 1;" + many(" ", 880) + "fee 100;");
    fault(1, 899, "who abcdefgh 1;" + many(" ", 880) + "fee 1000;");
    fault(1, 6, "who a;;" + many(" ", 900));
  }
  private static void p6() {
    RimCoins x = of("who a 2;who b;who c 3;coin 5 a;coin 7 a b;coin 9 c;stranger b;");
    x.wed(2, 1);
    x.dies(1, 0);
    int[][] due = {{2, 0, 0, 0, 2, 12}, {0, 1, 1, 1, 0, 0}, {3, 1, 0, 0, 1, 9}};
    for (int w = 0; w < 3; w++) for (int what = 0; what < 6; what++) is(due[w][what], x.who(w, what), "who " + w + ", " + what);
    none(() -> x.who(3, 0), "who 3");
    none(() -> x.who(-1, 0), "who -1");
    none(() -> x.who(0, 6), "who 0, 6");
    none(() -> x.who(0, -1), "who 0, -1");
  }
  private static void p7() {
    RimCoins x = of("who a;who b;who c 1;road 0 1;coin 5 a;coin 7 b a c;coin 8 c c c;coin 9 a;who d 2;coin 3 a d a d;");
    int[][] due = {{5, 0, 0, 2, 0}, {7, 1, 2, 0, 0}, {8, 2, 2, 2, 3}, {9, 0, 0, 2, 0}, {3, 0, 3, 2, 7}};
    for (int c = 0; c < 5; c++) for (int what = 0; what < 5; what++) is(due[c][what], x.coin(c, what), "coin " + c + ", " + what);
    none(() -> x.coin(5, 0), "coin 5");
    none(() -> x.coin(-1, 0), "coin -1");
    none(() -> x.coin(0, 5), "coin 0, 5");
    none(() -> x.coin(0, -1), "coin 0, -1");
    is(4, of("who a;who b 1;coin 5 a b;").coin(0, 4), "an owner far from the latest");
    is(4, of("who a;who b 1;who c;coin 5 a c b;").coin(0, 4), "names far from one another");
    is(0, of("who a;who b 1;who c 2;road 0 1;road 1 2;coin 5 a b c;").coin(0, 4), "an owner far from the second");
  }
  private static void p8() {
    RimCoins x = of("who a;who b;who c;coin 5 a b c;coin 5 b;");
    is(1, x.rim(0, 0), "the latest");
    is(2, x.rim(0, 1), "the one ahead of it");
    is(-1, x.rim(0, 2), "none");
    is(-1, x.rim(0, 3), "none");
    is(-1, x.rim(0, -1), "none");
    is(-1, x.rim(0, 40), "none");
    is(-1, x.rim(0, 6), "none");
    is(-1, x.rim(1, 0), "an empty rim");
    is(-1, x.rim(2, 0), "no COIN");
    is(-1, x.rim(-1, 0), "no COIN");
  }
  private static void p9() {
    RimCoins x = of("road 3 1;road 0 1;");
    is(1, x.near(1, 3), "near");
    is(1, x.near(3, 1), "near");
    is(0, x.near(0, 3), "not over two roads");
    is(1, x.near(2, 2), "the same");
    is(-1, x.near(0, 4), "no VILLAGE");
    is(-1, x.near(-1, 0), "no VILLAGE");
    is(-1, x.near(4, 4), "no VILLAGE");
  }
  private static void p10() {
    RimCoins x = of("who a;who b 2;coin 5 a;");
    is(4, x.why(0, 1), "far");
    yes(x.road(2, 0), "road");
    is(0, x.why(0, 1), "near");
    no(x.road(0, 2), "it does already");
    no(x.road(1, 1), "the same");
    no(x.road(0, 4), "no VILLAGE");
    no(x.road(-1, 1), "no VILLAGE");
    is(1, x.count(6), "roads");
  }
  private static void p11() {
    RimCoins x = of("who a;who b;who c;who d 1;who e 1;coin 5 a b;coin 5 a d;coin 6 d;");
    x.wed(1, 2);
    x.wed(0, 4);
    is(2, x.why(0, 0), "his own");
    is(2, x.why(0, 4), "of the owner's HOUSE, ahead of his VILLAGE");
    is(3, x.why(0, 1), "on the rim");
    is(3, x.why(0, 2), "of the HOUSE of one on the rim");
    is(3, x.why(1, 3), "on the rim, ahead of his VILLAGE");
    is(4, x.why(0, 3), "far");
    is(0, x.why(1, 1), "it GOES");
    is(-1, x.why(3, 0), "no COIN");
    is(-1, x.why(0, 5), "no WHO");
    is(-1, x.why(-1, 0), "no COIN");
    is(-1, x.why(0, -1), "no WHO");
    x.dies(2, 0);
    is(1, x.why(0, 2), "DEAD, ahead of all");
    is(3, x.why(0, 1), "HOUSES stay");
  }
  private static void p12() {
    RimCoins x = of("rim 2;" + people(5) + "coin 5 a;");
    is(0, x.pay(0, 1), "pay");
    is(1, x.coin(0, 1), "owner");
    is(0, x.rim(0, 0), "rim");
    is(3, x.pay(0, 0), "back");
    is(2, x.pay(0, 1), "to himself");
    is(0, x.pay(0, 2), "pay");
    is(0, x.pay(0, 3), "pay");
    is(2, x.rim(0, 0), "the latest");
    is(1, x.rim(0, 1), "ahead of it");
    is(2, x.coin(0, 2), "the oldest is rubbed off");
    is(0, x.pay(0, 0), "to the first once more");
    is(-1, x.pay(1, 0), "no COIN");
    is(-1, x.pay(0, 5), "no WHO");
    is(0, x.coin(0, 1), "nothing changed");
  }
  private static void p13() {
    RimCoins x = of("who a;who b;who c 1;who d;coin 5 a d;coin 5 c;");
    is(2, x.whom(0), "whom");
    is(0, x.whom(1), "nobody");
    is(-1, x.whom(2), "no COIN");
    is(-1, x.whom(-1), "no COIN");
    for (int i = 4; i < 24; i++) x.born(0);
    is(0xfffff2, x.whom(0), "24 WHOS");
  }
  private static void p14() {
    RimCoins x = of("who a;who b;who c;coin 2 a;coin 3 a;coin 1 a;coin 4 a;coin 5 a b;coin 5 b;coin 4 a;");
    is(1, x.exact(0, 2, 5), "the fewest");
    is(1, x.given(4), "given");
    is(2, x.exact(0, 1, 5), "without what does not GO");
    is(1, x.given(0), "2 and 3 come ahead of 1 and 4");
    is(1, x.given(1), "2 and 3 come ahead of 1 and 4");
    is(0, x.given(2), "2 and 3 come ahead of 1 and 4");
    is(-1, x.exact(0, 1, 15), "more than all");
    is(-2, x.exact(0, 1, 0), "sum 0");
    is(-2, x.exact(0, 1, 1000), "sum 1000");
    is(-1, x.exact(0, 1, 999), "sum 999");
    is(-2, x.exact(3, 1, 5), "no WHO");
    is(-2, x.exact(0, -1, 5), "no WHO");
    is(-1, x.exact(1, 1, 5), "himself");
    is(1, x.exact(1, 2, 5), "another's");
    RimCoins y = of("who a;who b;" + many("coin 25 a;", 40));
    is(39, y.exact(0, 1, 975), "39 of 40");
    is(1, y.given(38), "given");
    is(0, y.given(39), "kept");
    is(-1, y.exact(0, 1, 999), "none");
  }
  private static void p15() {
    RimCoins x = of("who a;who b;coin 1 a;coin 2 a;coin 2 a;coin 3 a;");
    is(-1, x.given(0), "ahead of any");
    x.exact(0, 1, 99);
    is(-1, x.given(0), "behind a NONE");
    is(2, x.exact(0, 1, 4), "1 and 3, or 2 and 2");
    int[] due = {1, 0, 0, 1};
    for (int c = 0; c < 4; c++) is(due[c], x.given(c), "given " + c);
    is(-1, x.given(4), "no COIN");
    is(-1, x.given(-1), "no COIN");
    x.exact(0, 1, 99);
    x.exact(0, 1, 0);
    x.payable(0, 3);
    is(1, x.given(0), "it stays");
    feed(x, "who a;").valley();
    is(1, x.given(3), "it stays in another VALLEY");
    feed(x, "who a;who b;coin 5 a;owes a b 5;").valley();
    x.clear(0);
    is(1, x.given(3), "clear() is not told");
    feed(x, "who a;who b;coin 5 a;").valley();
    x.exact(0, 1, 5);
    is(-1, x.given(3), "no such one then");
    x.keep(0, 1, 5, 1, 5);
    is(1, x.given(0), "behind a keep() of NONE");
  }
  private static void p16() {
    RimCoins x = of("who a;who b;coin 1 a;coin 2 a;coin 2 a;");
    is(-1, x.settle(0, 1, 6), "more than he has");
    is(-2, x.settle(0, 1, 0), "sum 0");
    is(-2, x.settle(2, 1, 1), "no WHO");
    is(2, x.settle(0, 1, 3), "settle");
    is(1, x.given(1), "given");
    is(0, x.given(2), "given");
    is(3, x.who(1, 5), "VALUES");
    is(0, x.rim(1, 0), "rim");
    is(-1, x.rim(2, 0), "rim of what is kept");
    is(-1, x.settle(1, 0, 3), "it does not go back");
  }
  private static void p17() {
    RimCoins x = of("who a;who b;who c 1;coin 1 a;coin 2 a b;coin 4 a;coin 8 b;");
    is(5, x.most(0, 1), "most");
    is(0, x.most(0, 2), "far");
    is(0, x.most(0, 0), "himself");
    is(8, x.most(1, 0), "the other");
    is(-1, x.most(3, 0), "no WHO");
    is(-1, x.most(0, -1), "no WHO");
  }
  private static void p18() {
    RimCoins x = of("who a;who b;who c 1;who d;coin 1 a;coin 2 a b;coin 4 a;");
    is(0b1010, x.payable(0, 5), "payable");
    is(0b1000, x.payable(0, 3), "payable");
    is(0, x.payable(0, 8), "nobody");
    is(0, x.payable(1, 1), "without COINS");
    is(-1, x.payable(0, 0), "sum 0");
    is(-1, x.payable(0, 1000), "sum 1000");
    is(0, x.payable(0, 999), "sum 999");
    is(-1, x.payable(4, 1), "no WHO");
    is(-1, x.payable(-1, 1), "no WHO");
  }
  private static void p19() {
    RimCoins x = of("who a;who b;who c;coin 5 a;coin 3 a;coin 2 a;coin 5 a c;coin 99 a;coin 99 a;");
    is(1, x.keep(0, 1, 5, 2, 5), "COIN 3 alone leaves a 5, as COIN 0 leaves 3 and 2");
    is(1, x.given(0), "the first");
    is(1, x.keep(0, 2, 5, 1, 10), "c has COIN 0, for COIN 3 does not GO to him; b has 5, 3 and 2");
    is(1, x.given(0), "the first");
    is(0, x.given(3), "kept");
    is(1, x.keep(0, 1, 3, 1, 5), "b twice");
    is(-1, x.keep(0, 1, 5, 2, 11), "not tomorrow");
    is(-1, x.keep(0, 1, 4, 2, 5), "not today");
    is(-1, x.keep(0, 0, 5, 2, 5), "to himself");
    is(-1, x.keep(0, 1, 5, 0, 5), "to himself");
    is(1, x.keep(0, 1, 99, 2, 99), "99");
    is(1, x.given(4), "given");
    is(0, x.given(5), "kept");
    is(-2, x.keep(0, 1, 100, 2, 1), "100");
    is(-2, x.keep(0, 1, 1, 2, 100), "100");
    is(-2, x.keep(0, 1, 0, 2, 1), "0");
    is(-2, x.keep(0, 1, 1, 2, 0), "0");
    is(-2, x.keep(3, 1, 1, 2, 1), "no WHO");
    is(-2, x.keep(0, 3, 1, 2, 1), "no WHO");
    is(-2, x.keep(0, 1, 1, 3, 1), "no WHO");
    RimCoins y = of("who a;who b;who c;coin 2 a c;coin 2 a;coin 1 a;coin 1 a;");
    is(1, y.keep(0, 1, 2, 2, 2), "keep");
    is(1, y.given(0), "the first");
    is(1, y.keep(0, 1, 2, 2, 4), "of c's only 2, 1, 1 come tomorrow");
    is(1, y.given(0), "so COIN 0 goes today");
    is(-1, y.keep(0, 1, 4, 2, 3), "4 today leaves 2 at most");
  }
  private static void p20() {
    String text = "who a;who s;who t;stranger s;coin 10 a;coin 8 s;coin 9 s;coin 3 t;coin 8 s a;coin 9 a;coin 7 s;";
    RimCoins x = of(text);
    is(1, x.change(0, 3), "of no stranger");
    is(1, x.change(1, 5), "of no stranger");
    is(3, x.change(0, 4), "it does not GO back");
    is(4, x.change(0, 2), "10 less 2 is below 9");
    is(2, x.change(1, 1), "his own");
    is(-1, x.change(7, 0), "no COIN");
    is(-1, x.change(0, -1), "no COIN");
    is(0, x.change(0, 1), "10 less 2 is 8");
    is(1, x.coin(0, 1), "the stranger has it");
    is(0, x.rim(0, 0), "rim");
    is(0, x.coin(1, 1), "he has it");
    is(1, x.rim(1, 0), "rim");
    is(2, x.change(1, 2), "it does not GO to the stranger");
    is(0, x.change(5, 6), "9 less 2 is 7");
    is(0, of("who a;who s;stranger s;coin 8 a;coin 7 s;").change(0, 1), "8 by 8 is 1");
    is(4, of("who a;who s;stranger s;fee 9;coin 8 a;coin 8 s;").change(0, 1), "8 by 9 is 1");
    is(4, of("who a;who s;stranger s;fee 1;coin 8 a;coin 1 s;").change(0, 1), "nothing is left");
  }
  private static void p21() {
    RimCoins x = of("who a;who s;stranger s;coin 10 a;coin 5 s;coin 20 a;coin 6 s;");
    is(0, x.earned(1), "ahead of any");
    x.change(0, 1);
    is(5, x.earned(1), "5");
    x.change(2, 3);
    is(19, x.earned(1), "5 and 14");
    is(0, x.earned(0), "no stranger");
    x.image(0);
    is(-1, x.earned(2), "no WHO");
    is(-1, x.earned(-1), "no WHO");
    feed(x, "who a;who s;stranger s;").valley();
    is(0, x.earned(1), "a new VALLEY");
    x.restore(0);
    is(19, x.earned(1), "restored");
  }
  private static void p22() {
    RimCoins x = of("who a;who s;who b;who t;stranger s;stranger t;coin 20 a;coin 5 s;coin 9 s b;coin 9 s;coin 9 t;coin 19 t;coin 17 t a;");
    is(3, x.changed(0, 2), "the first of most VALUE that GOES to b");
    is(2, x.changed(0, 3), "to t the first of those of s");
    is(4, x.changed(0, 1), "to s none of his own");
    is(-1, x.changed(0, 0), "to himself");
    is(-1, x.changed(7, 0), "no COIN");
    is(-1, x.changed(0, 4), "no WHO");
    is(-1, x.changed(3, 2), "s pays no stranger but t: 9 less 2");
    is(1, of("rim 0;who a;who s;stranger s;coin 9 a;coin 5 s;").changed(0, 1), "without a rim it goes back");
  }
  private static void p23() {
    RimCoins x = of("who a;who b 3;coin 5 a b;");
    no(x.steal(0, 0), "his own");
    no(x.steal(2, 0), "no WHO");
    no(x.steal(1, 1), "no COIN");
    no(x.steal(-1, 0), "no WHO");
    yes(x.steal(1, 0), "steal");
    is(1, x.coin(0, 1), "owner");
    is(1, x.coin(0, 2), "names");
    is(1, x.rim(0, 0), "nothing else");
    x.dies(0, 1);
    no(x.steal(0, 0), "DEAD");
  }
  private static void p24() {
    RimCoins x = of("who a;who b 2;who c;who d;coin 5 a;");
    no(x.wed(0, 0), "himself");
    no(x.wed(0, 4), "no WHO");
    no(x.wed(-1, 0), "no WHO");
    yes(x.wed(2, 1), "wed");
    is(1, x.who(2, 1), "HOUSE");
    is(1, x.who(1, 1), "HOUSE");
    no(x.wed(2, 0), "not alone");
    no(x.wed(0, 1), "not alone");
    x.dies(2, 0);
    no(x.wed(1, 0), "HOUSES stay");
    x.dies(3, 0);
    no(x.wed(3, 0), "DEAD");
    no(x.wed(0, 3), "DEAD");
  }
  private static void p25() {
    RimCoins x = of("who a;coin 5 a;");
    is(1, x.born(3), "born");
    is(3, x.who(1, 0), "VILLAGE");
    is(0, x.who(1, 3), "no stranger");
    is(1, x.who(1, 1), "HOUSE");
    is(-1, x.born(4), "no VILLAGE");
    is(-1, x.born(-1), "no VILLAGE");
    for (int i = 2; i < 24; i++) is(i, x.born(0), "born");
    is(-1, x.born(0), "24");
    is(24, x.count(0), "WHOS");
    is(0, x.pay(0, 23), "the last one");
    is(23, x.coin(0, 1), "owner");
  }
  private static void p26() {
    for (int law = 0; law < 3; law++) {
      String text = people(4) + "coin 5 b a c;coin 6 d b a b;coin 7 b;coin 8 c;" + new String[] {"dead rubbed;", "", "dead heirs;"}[law];
      RimCoins x = of(text);
      is(-1, x.dies(1, 1), "himself");
      is(-1, x.dies(1, 4), "no WHO");
      is(-1, x.dies(4, 1), "no WHO");
      is(2, x.dies(1, 0), "dies");
      is(0, x.coin(0, 1), "owner");
      is(0, x.coin(2, 1), "owner");
      is(2, x.coin(0, 2), "as in a THEFT");
      is(1, x.who(1, 2), "DEAD");
      is(-1, x.dies(1, 0), "once");
      is(-1, x.dies(0, 1), "no DEAD heir");
      int[][] due = {{0, -1, -1}, {1, 0, 1}, {0, 0, 0}};
      for (int i = 0; i < 3; i++) is(due[law][i], x.rim(1, i), "rim by law " + law);
      is(1, x.dies(3, 2), "one COIN");
      is(2, x.dies(2, 0), "his and what he has of d");
      is(law == 2 ? 0 : law == 1 ? 2 : -1, x.rim(0, 1), "the name of c by law " + law);
    }
  }
  private static void p27() {
    RimCoins x = of("who a;who b;coin 5 a b;coin 5 a;coin 6 b a;");
    is(2, x.stuck(-1), "how many");
    is(0, x.stuck(0), "the first");
    is(2, x.stuck(1), "the second");
    is(-1, x.stuck(2), "none");
    is(-1, x.stuck(-2), "none");
    is(-1, x.stuck(40), "none");
  }
  private static void p28() {
    RimCoins x = of("who a;who b 1;who c 2;road 1 2;coin 5 a b;coin 5 b;coin 6 c b;coin 7 a;");
    is(2, x.frees(0), "of a");
    is(1, x.frees(1), "of c");
    is(1, x.frees(2), "of c");
    is(0, x.frees(3), "of none");
    is(-1, x.frees(4), "no VILLAGE");
    is(-1, x.frees(-1), "no VILLAGE");
    is(3, x.count(0), "nobody is born");
    for (int i = 3; i < 24; i++) x.born(3);
    is(2, x.frees(0), "with 24");
  }
  private static void p29() {
    is(0, new RimCoins().cradle(), "of like ones");
    is(2, of("who a 2;coin 5 a;").cradle(), "where he is");
    is(1, of("who a 3;who b 1;coin 5 a;coin 5 b;").cradle(), "the first");
    is(1, of("who a 2;who b 1;who c 1;road 1 2;road 1 3;coin 1 a b c;coin 5 a b c;coin 1 b c;").cradle(), "most");
  }
  private static void p30() {
    is(1, new RimCoins().opens(), "of like ones");
    is(23, of("who a 2;who b 3;coin 5 a;").opens(), "23");
    is(13, of("who a 1;who b 2;who c 3;road 1 2;coin 5 a b;coin 5 c;").opens(), "13 frees two");
    RimCoins x = of("road 0 1;road 0 2;road 0 3;road 1 2;road 1 3;who a 3;coin 5 a;");
    is(23, x.opens(), "the last one");
    is(0, x.near(2, 3), "nothing is built");
    x.road(2, 3);
    is(-1, x.opens(), "all are NEAR");
  }
  private static void p31() {
    RimCoins x = of("rim 1;who a;who b 1;who c 1;who d 2;who e 1;road 0 1;road 1 2;coin 5 a;coin 6 d;");
    is(0, x.hands(0, 0), "his own");
    is(1, x.hands(0, 1), "one");
    is(2, x.hands(0, 3), "two");
    is(1, x.handAt(0), "the lesser");
    is(3, x.handAt(1), "d");
    x.wed(1, 3);
    is(2, x.hands(0, 3), "b's HOUSE");
    is(2, x.handAt(0), "c");
    is(-1, x.hands(2, 0), "no COIN");
    is(-1, x.hands(0, 5), "no WHO");
    is(-1, x.hands(-1, 0), "no COIN");
    is(-1, x.hands(0, -1), "no WHO");
    x.dies(3, 0);
    is(-1, x.hands(0, 3), "DEAD");
    is(-1, of("who a;who b 1;coin 5 a;").hands(0, 1), "by none");
    RimCoins y = of("rim 3;who a;who b;who c;who d;who e;coin 5 a b;");
    is(4, y.hands(0, 1), "till it is rubbed off");
    int[] due = {2, 3, 4, 1, -1};
    for (int i = 0; i < due.length; i++) is(due[i], y.handAt(i), "hand " + i);
    is(-1, of("rim 3;who a;who b;who c;who d;coin 5 a b;").hands(0, 1), "too few to have it");
  }
  private static void p32() {
    RimCoins x = of("rim 2;" + people(5) + "coin 5 a b c;coin 6 a;");
    is(-1, x.handAt(0), "ahead of any");
    is(3, x.hands(0, 1), "back to b");
    int[] due = {3, 2, 1, -1};
    for (int i = 0; i < due.length; i++) is(due[i], x.handAt(i), "hand " + i);
    is(-1, x.handAt(-1), "none");
    is(-1, x.hands(0, 9), "none");
    is(3, x.handAt(0), "it stays");
    is(0, x.hands(1, 0), "his own");
    is(-1, x.handAt(0), "nobody");
  }
  private static void p33() {
    RimCoins x = of("rim 1;who a;who b;who c;coin 5 a c;coin 5 a;");
    is(3, x.again(0), "a, b, c, a");
    is(-1, x.again(1), "its rim is never empty again");
    is(-1, x.again(2), "no COIN");
    is(-1, x.again(-1), "no COIN");
    is(2, of("rim 0;who a;who b;coin 5 a;").again(0), "without a rim");
    is(-1, of("rim 0;who a;who b 1;coin 5 a;").again(0), "nowhere to go");
    is(5, of(people(7) + "coin 5 a b c d;").again(0), "the fewest");
    is(-1, of("rim 1;who a;who b;who c;who d 1;coin 5 a d;").again(0), "a forged rim");
  }
  private static void p34() {
    is(1, of("rim 0;who a;who b;coin 5 a;").ever(0), "to and fro");
    is(0, of("rim 1;who a;who b;coin 5 a;").ever(0), "once");
    is(1, of("rim 1;who a;who b;who c;coin 5 a;").ever(0), "round");
    is(0, of(people(4) + "coin 5 a;").ever(0), "three times");
    is(1, of(people(5) + "coin 5 a;").ever(0), "round");
    is(0, of(people(5).replace("e;", "e 1;") + "coin 5 e;").ever(0), "far");
    RimCoins x = of("rim 1;who a;who b;who c;coin 5 a;");
    x.wed(1, 2);
    is(0, x.ever(0), "two HOUSES");
    is(-1, x.ever(1), "no COIN");
    is(-1, x.ever(-1), "no COIN");
    RimCoins y = of("rim 1;who a;who b;who c 1;who d 1;who e 1;coin 5 a;road 0 1;");
    is(1, y.ever(0), "over the road");
  }
  private static void p35() {
    RimCoins x = of("who a;who b;owes b a 7;owes a b 999;coin 7 b;");
    int[][] due = {{1, 0, 7, 0}, {0, 1, 999, 0}};
    for (int k = 0; k < 2; k++) for (int what = 0; what < 4; what++) is(due[k][what], x.debt(k, what), "debt " + k + ", " + what);
    x.clear(0);
    is(1, x.debt(0, 3), "CLEARED");
    none(() -> x.debt(2, 0), "debt 2");
    none(() -> x.debt(-1, 0), "debt -1");
    none(() -> x.debt(0, 4), "debt 0, 4");
    none(() -> x.debt(0, -1), "debt 0, -1");
  }
  private static void p36() {
    RimCoins x = of("who a;who b;owes a b 5;owes b a 5;owes a b 1;coin 3 a;coin 2 a;");
    is(-1, x.clear(1), "nothing to pay with");
    is(2, x.clear(0), "clear");
    is(5, x.who(1, 5), "VALUES");
    is(0, x.rim(0, 0), "rim");
    is(-2, x.clear(0), "it is already");
    is(-1, x.clear(1), "it does not go back");
    is(-1, x.clear(2), "it can't be now");
    is(-2, x.clear(3), "no DEBT");
    is(-2, x.clear(-1), "no DEBT");
  }
  private static void p37() {
    String text = "who a;who b;who c;coin 5 a;coin 3 a;coin 2 a;owes a b 5;owes b c 5;owes a c 3;owes c b 3;owes a b 5;owes c a 9;";
    RimCoins x = of(text);
    is(2, orders(x, 1, 0), "b is paid first");
    is(0, x.count(8), "the tape is empty");
    is(-1, orders(x), "none");
    is(-1, orders(x, 0, 0), "alike");
    is(-1, orders(x, 6), "no DEBT");
    is(-1, orders(x, 255), "no DEBT");
    is(-1, orders(x, 0, 1, 2, 3, 4, 5), "six");
    is(0, orders(x, 5), "can't be");
    is(4, orders(x, 3, 2, 1, 0, 5), "four of five");
    is(10, x.who(0, 5), "nothing is paid");
    is(0, x.debt(0, 3), "nothing is CLEARED");
    x.clear(0);
    is(-1, orders(x, 0), "CLEARED");
    is(1, orders(x, 1), "now it can be");
    feed(x, "\1\2\3\4\5\0").orders();
    is(0, x.count(8), "the tape is empty");
  }
  private static void p38() {
    RimCoins x = of("who a;who b;who c;coin 5 a;owes a b 5;owes b c 5;owes c a 7;");
    is(-1, x.orderAt(0), "ahead of any");
    is(2, orders(x, 2, 1, 0), "two");
    int[] due = {2, 0, 1, -1};
    for (int i = 0; i < 4; i++) is(due[i], x.orderAt(i), "as they are told: the one left out first");
    is(-1, x.orderAt(-1), "none");
    is(2, orders(x, 0, 2, 1), "two");
    int[] other = {0, 2, 1, -1};
    for (int i = 0; i < 4; i++) is(other[i], x.orderAt(i), "told otherwise");
    is(-1, orders(x, 7), "NONE");
    is(0, x.orderAt(0), "it stays");
    is(0, orders(x, 2), "nothing");
    is(2, x.orderAt(0), "left out");
    is(-1, x.orderAt(1), "none");
  }
  private static void p39() {
    RimCoins x = of("rim 1;who a;who b;who c;who d;coin 5 a b;coin 6 a;");
    is(1, x.ways(0, 1, 1), "b, then a");
    is(0, x.ways(0, 0, 1), "from a");
    is(1, x.ways(0, 2, 2), "c, b, a");
    is(0, x.ways(0, 0, 2), "a, b, and not back");
    is(2, x.ways(0, 0, 3), "a, c or d, b, a");
    is(0, x.ways(1, 1, 3), "an empty rim");
    is(-1, x.ways(0, 0, 0), "0");
    is(-1, x.ways(0, 0, 6), "6");
    is(-1, x.ways(2, 0, 1), "no COIN");
    is(-1, x.ways(0, 4, 1), "no WHO");
    is(-1, x.ways(0, -1, 1), "no WHO");
    is(1, of("rim 0;who a;who b;coin 6 a;").ways(0, 1, 5), "to and fro");
    RimCoins y = of("rim 0;" + people(4) + "coin 6 a;");
    is(20 * 3, y.ways(0, 0, 5), "rows of five");
    y.dies(3, 0);
    is(2, y.ways(0, 3, 2), "from one DEAD");
  }
  private static void p40() {
    RimCoins x = of("rim 1;who a;who b;who c;who d;coin 5 a b;");
    is(-1, x.had(0), "ahead of any");
    x.ways(0, 0, 3);
    is(0b1100, x.had(0), "c or d");
    is(0b10, x.had(1), "b");
    is(0b1, x.had(2), "a");
    is(-1, x.had(3), "none");
    is(-1, x.had(-1), "none");
    x.ways(0, 9, 3);
    is(0b1100, x.had(0), "it stays");
    x.ways(0, 0, 1);
    is(0, x.had(0), "nobody");
    is(-1, x.had(1), "none");
  }
  private static int seed;
  private static int draw(int n) {
    seed = seed * 1103515245 + 12345;
    return (seed >>> 8) % n;
  }
  private static void p41() {
    is(-1, new RimCoins().days(1, 1), "nobody");
    is(-1, of("who a;").days(1, 1), "no COINS");
    for (int start = -50; start < 50; start++) {
      RimCoins x = of("who a;who b;coin 5 a;");
      seed = start;
      int from = draw(2), to = draw(2);
      int went = 0;
      if (from == 0) {
        draw(1);
        went = to;
      }
      is(went, x.days(1, start), "days from " + start);
      is(went, x.coin(0, 1) == 1 || x.drawn(2) > 0 ? went : 0, "owner");
    }
    RimCoins x = of("who a;who b;coin 5 a;");
    is(-1, x.days(0, 1), "0");
    is(-1, x.days(401, 1), "401");
    is(-1, x.days(-5, 1), "below 0");
    yes(x.days(400, 1) >= 0, "400");
  }
  private static void p42() {
    RimCoins x = of("who a;who b;coin 5 a;coin 5 b;coin 4 a;");
    is(-1, x.drawn(0), "ahead of any");
    x.days(0, 5);
    is(-1, x.drawn(0), "behind a NONE");
    int went = x.days(400, 77);
    is(22, x.drawn(1), "BIRTHS fill the VALLEY");
    is(24, x.count(0), "WHOS");
    yes(went + x.drawn(0) <= 400 && x.drawn(0) > 0, "payments");
    yes(x.drawn(2) > 0, "THEFTS");
    is(-1, x.drawn(3), "another");
    is(-1, x.drawn(-1), "another");
    int refused = x.drawn(0);
    x.days(401, 5);
    x.trade(1, 50, 3);
    is(refused, x.drawn(0), "it stays");
  }
  private static void p43() {
    is(-1, new RimCoins().trade(1, 1, 1), "nobody");
    is(-1, of("who a;").trade(1, 1, 1), "no COINS");
    String text = "rim 2;who a;who b;who c;coin 5 a b c;coin 6 b;";
    RimCoins x = of(text);
    for (int r = 0; r < 4; r++) {
      seed = 99;
      RimCoins y = of(text.replace("rim 2", "rim " + r).replace("a b c", r == 0 ? "a" : r == 1 ? "a b" : "a b c"));
      int went = 0;
      for (int i = 0; i < 100; i++) {
        int from = draw(3), to = draw(3), n = y.who(from, 4);
        if (n == 0) continue;
        int k = draw(n), c = 0;
        for (; c < 2; c++) if (y.coin(c, 1) == from && k-- == 0) break;
        if (y.pay(c, to) == 0) went++;
      }
      is(went, x.trade(r, 100, 99), "trade by " + r);
    }
    is(2, x.coin(0, 2), "nothing is changed");
    is(0, x.coin(1, 2), "nothing is changed");
    is(2, x.count(3), "nothing is changed");
    is(-1, x.trade(4, 1, 1), "rim 4");
    is(-1, x.trade(-1, 1, 1), "rim -1");
    is(-1, x.trade(1, 0, 1), "0 DAYS");
    is(-1, x.trade(1, 401, 1), "401 DAYS");
  }
  private static void p44() {
    RimCoins x = of("who a;who b;coin 5 a;");
    is(1, feed(x, "stuck").sentence(), "one");
    is(0, x.fault(), "no FAULT");
    is(0, x.count(8), "the tape is empty");
    is(3, feed(x, "not(held a)").sentence(), "not, bracket, held");
    is(-9, feed(x, "stuck or").sentence(), "the end");
    is(0, x.said(-1), "the SENTENCE before stays");
    is(20, feed(x, "stuck" + many(" or stuck", 19)).sentence(), "twenty");
    is(8, feed(x, "not not not not not not not stuck").sentence(), "eight within one another");
    is(8, feed(x, "(((((((stuck)))))))").sentence(), "eight within one another");
    is(1, feed(x, "stuck" + many(" ", 195)).sentence(), "200 bytes");
    sentenceFault(1, 0, "");
    sentenceFault(1, 2, "  ");
    sentenceFault(1, 0, "a");
    sentenceFault(1, 0, "who a");
    sentenceFault(1, 0, "or stuck");
    sentenceFault(1, 6, "stuck stuck");
    sentenceFault(1, 5, "stuck;");
    sentenceFault(1, 5, "stuck.");
    sentenceFault(1, 5, "stuck)");
    sentenceFault(1, 6, "(stuck");
    sentenceFault(1, 1, "()");
    sentenceFault(1, 5, "held stuck");
    sentenceFault(1, 5, "held 5");
    sentenceFault(3, 5, "held c");
    sentenceFault(3, 6, "bears zz");
    sentenceFault(3, 5, "goes zz");
    sentenceFault(1, 6, "value 5");
    sentenceFault(1, 6, "value ( 5");
    sentenceFault(1, 6, "value=a");
    sentenceFault(1, 6, "value=1000");
    sentenceFault(1, 6, "names<");
    sentenceFault(4, 5 + 19 * 9 + 4, "stuck" + many(" or stuck", 19) + " or stuck");
    sentenceFault(1, 5 + 19 * 9 + 4, "stuck" + many(" or stuck", 19) + " or held2");
    sentenceFault(4, 8, "((((((((stuck))))))))");
    sentenceFault(4, 32, "not not not not not not not not stuck");
    sentenceFault(1, 32, "not not not not not not not not a");
    sentenceFault(1, 200, "stuck" + many(" ", 196));
    sentenceFault(1, 200, many(" ", 201));
    sentenceFault(1, 196, "stuck" + many(" ", 191) + "abcdefghi");
    sentenceFault(1, 200, "stuck" + many(" ", 193) + "or stuck");
    sentenceFault(1, 199, "stuck" + many(" ", 194) + "stuck");
  }
  private static void said(int due, RimCoins x, String text) {
    feed(x, text).sentence();
    int bits = 0;
    for (int k = 0; k < x.said(-1); k++) bits |= 1 << x.said(k);
    is(due, bits, "said of '" + text + "'");
    is(-1, x.said(x.said(-1)), "none such");
  }
  private static void p45() {
    RimCoins x = of("who a;who b;who c 1;coin 5 a b;coin 7 b;coin 9 c c;coin 5 a;");
    is(-1, x.said(-1), "no SENTENCE");
    said(0b1001, x, "held a");
    said(0b0001, x, "bears b");
    said(0b0100, x, "bears c");
    said(0b0010, x, "goes a");
    said(0b1000, x, "goes b");
    said(0b0101, x, "stuck");
    said(0b0100, x, "forged");
    said(0b0110, x, "value>5");
    said(0b1001, x, "value=5");
    said(0b1001, x, "value<7");
    said(0b0101, x, "names=1");
    said(0b0100, x, "place>0");
    said(0b1011, x, "place=0");
    said(0b1010, x, "not stuck");
    said(0b1101, x, "stuck or held a");
    said(0b0001, x, "stuck and held a");
    said(0b0111, x, "held b or stuck and not held b");
    said(0b0101, x, "(held b or stuck) and not held b");
    said(0b1110, x, "not (bears b)");
    said(0b1000, x, "not bears b and held a");
    said(0b1111, x, "not (stuck and held b)");
    is(-1, x.said(4), "none such");
    is(-1, x.said(-2), "none such");
    said(0b0101, x, "stuck");
    x.born(1);
    said(0b0001, x, "stuck");
    is(1, x.said(-1), "as it is now");
    x.born(0);
    is(0, x.said(-1), "as it is now");
    feed(x, "held").sentence();
    is(0, x.said(-1), "it stays");
  }
  private static void p46() {
    RimCoins x = of("who a;coin 5 a;");
    yes(x.image(0), "image 0");
    yes(x.image(1), "image 1");
    no(x.image(2), "image 2");
    no(x.image(-1), "image -1");
    x.born(2);
    x.steal(1, 0);
    yes(x.image(1), "image 1 once more");
    x.restore(0);
    is(1, x.count(0), "WHOS in 0");
    x.restore(1);
    is(2, x.count(0), "WHOS in 1");
    is(1, x.coin(0, 1), "owner in 1");
  }
  private static void p47() {
    RimCoins x = new RimCoins();
    no(x.restore(0), "nothing kept");
    no(x.restore(1), "nothing kept");
    no(x.restore(2), "no place");
    no(x.restore(-1), "no place");
    x.image(0);
    no(x.restore(1), "nothing kept in the other");
    feed(x, "rim 2;who a;who b;who c;coin 5 a c;coin 3 b;owes a b 5;stranger b;fee 4;dead heirs;road 1 2;").valley();
    feed(x, "held a").sentence();
    x.wed(0, 2);
    x.road(0, 3);
    x.image(1);
    x.exact(0, 1, 5);
    x.hands(0, 1);
    x.clear(0);
    x.change(0, 1);
    x.born(1);
    x.dies(2, 0);
    x.road(0, 2);
    feed(x, "held b").sentence();
    feed(x, "zz").sentence();
    x.feed(1, 2, 3, 4, 5);
    yes(x.restore(1), "restore");
    is(20, x.count(8), "the tape stays");
    is(1, x.fault(), "fault() stays");
    is(1, x.given(0), "given() stays");
    is(1, x.handAt(0), "handAt() stays");
    int[] due = {3, 2, 1, 2, 4, 2, 2, 1};
    for (int i = 0; i < due.length; i++) is(due[i], x.count(i), "count " + i);
    is(0, x.debt(0, 3), "not CLEARED");
    is(0, x.who(2, 2), "not DEAD");
    is(0, x.who(2, 1), "wed");
    is(0, x.coin(0, 1), "owner");
    is(2, x.rim(0, 0), "rim");
    is(0, x.near(0, 2), "road");
    is(1, x.near(0, 3), "road");
    is(1, x.said(-1), "SENTENCE");
    is(0, x.said(0), "SENTENCE");
    x.end(0);
    is(1, feed(x, "held c").sentence(), "NAMES");
    x.born(0);
    yes(x.restore(1), "restore once more");
    is(3, x.count(0), "WHOS");
    yes(x.restore(0), "restore the empty one");
    is(0, x.count(0), "WHOS");
    is(-1, x.said(-1), "no SENTENCE");
  }
  private static void p48() {
    RimCoins x = of("rim 1;who a;who b 2;coin 5 a;owes a b 3;owes b a 3;stranger b;fee 9;dead rubbed;road 1 2;road 3 2;");
    x.feed(0, 0, 0, 0, 0);
    int[] due = {2, 1, 2, 1, 9, 0, 2, 1, 20, -1};
    for (int i = 0; i < due.length; i++) is(due[i], x.count(i), "count " + i);
    is(-1, x.count(-1), "another");
    is(2, of("dead heirs;").count(5), "heirs");
    is(1, of("dead stays;").count(5), "stays");
    is(1, of("rim 3;").count(5), "without");
    is(8, of("rim 0;").count(4), "without");
    is(0, of("rim 0;").count(3), "rim");
  }

  private static void run(int number, Runnable test) {
    promise = number;
    test.run();
  }

  public static void main(String[] args) {
    run(1, Promises::p1); run(2, Promises::p2); run(3, Promises::p3); run(4, Promises::p4); run(5, Promises::p5);
    run(5, Promises::limits); run(6, Promises::p6); run(7, Promises::p7); run(8, Promises::p8); run(9, Promises::p9);
    run(10, Promises::p10); run(11, Promises::p11); run(12, Promises::p12); run(13, Promises::p13); run(14, Promises::p14);
    run(15, Promises::p15); run(16, Promises::p16); run(17, Promises::p17); run(18, Promises::p18); run(19, Promises::p19);
    run(20, Promises::p20); run(21, Promises::p21); run(22, Promises::p22); run(23, Promises::p23); run(24, Promises::p24);
    run(25, Promises::p25); run(26, Promises::p26); run(27, Promises::p27); run(28, Promises::p28); run(29, Promises::p29);
    run(30, Promises::p30); run(31, Promises::p31); run(32, Promises::p32); run(33, Promises::p33); run(34, Promises::p34);
    run(35, Promises::p35); run(36, Promises::p36); run(37, Promises::p37); run(38, Promises::p38); run(39, Promises::p39);
    run(40, Promises::p40); run(41, Promises::p41); run(42, Promises::p42); run(43, Promises::p43); run(44, Promises::p44);
    run(45, Promises::p45); run(46, Promises::p46); run(47, Promises::p47); run(48, Promises::p48);
    System.out.println(wrong == 0 ? "all promises hold" : wrong + " answers are not as due");
    if (wrong != 0) System.exit(1);
  }
}
