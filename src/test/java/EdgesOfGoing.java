/** Boundaries of people, COINS and payments: promises 1 and 6 to 30. */
final class EdgesOfGoing {
  private EdgesOfGoing() { }

  static void all() {
    empty();
    asking();
    places();
    going();
    rims();
    exact();
    exactBounds();
    keeping();
    changes();
    changing();
    lives();
    deaths();
    stuck();
    villages();
  }

  private static void empty() {
    Edge.edge(1, "An empty VALLEY; an empty tape.", () -> {
      RimCoins x = new RimCoins();
      int[] counts = {0, 0, 0, 3, 8, 1, 0, 0, 0};
      for (int i = 0; i < counts.length; i++) Edge.due(counts[i], x.count(i), "count(" + i + ")");
      Edge.none(() -> x.who(0, 0), "who(0, 0)");
      Edge.none(() -> x.coin(0, 0), "coin(0, 0)");
      Edge.none(() -> x.debt(0, 0), "debt(0, 0)");
      Edge.due(0, x.stuck(-1), "stuck(-1)");
      Edge.due(0, x.frees(0), "frees(0)");
      Edge.due(0, x.cradle(), "cradle()");
      Edge.due(1, x.opens(), "opens()");
      Edge.due(0, x.valley(), "valley() of the empty tape");
      Edge.due(0, new RimCoins().born(0), "the first BIRTH");
    });
    Edge.edge(6, "A call that throws changes nothing.", () -> {
      RimCoins x = Promises.of("who a;who b;coin 5 a b;owes a b 5;");
      x.feed(1, 2, 3, 4, 5);
      Edge.none(() -> x.who(2, 0), "who(2, 0)");
      Edge.none(() -> x.coin(0, 9), "coin(0, 9)");
      Edge.none(() -> x.debt(-1, 0), "debt(-1, 0)");
      Edge.due(20, x.count(8), "bytes");
      Edge.alike(x, Promises.of("who a;who b;coin 5 a b;owes a b 5;"), "behind throws");
    });
  }

  private static void asking() {
    Edge.edge(6, "NoSuchElementException: no such ones", () -> {
      RimCoins x = Promises.of("who a 3;who b;");
      for (int w : Edge.NO_PLACES) Edge.none(() -> x.who(w, 0), "who(" + w + ", 0)");
      for (int what : Edge.NO_PLACES) Edge.none(() -> x.who(1, what), "who(1, " + what + ")");
      Edge.none(() -> x.who(2, 0), "who(2, 0)");
      Edge.none(() -> x.who(32, 0), "who(32, 0)");
      Edge.none(() -> x.who(0, 6), "who(0, 6)");
      Edge.due(3, x.who(0, 0), "the first");
      Edge.due(0, x.who(1, 5), "the last");
      for (int w = 2; w < 24; w++) x.born(2);
      Edge.due(2, x.who(23, 0), "the 24th");
      Edge.none(() -> x.who(24, 0), "who(24, 0)");
    });
    Edge.edge(6, "4 COINS, 5 VALUES of these together", () -> {
      RimCoins x = Promises.of("who a;who b;" + Promises.many("coin 99 a;", 40));
      Edge.due(40, x.who(0, 4), "all COINS");
      Edge.due(3960, x.who(0, 5), "VALUES of all");
      Edge.due(0, x.who(1, 4), "no COINS");
      Edge.due(0, x.who(1, 5), "VALUES of none");
    });
    Edge.edge(6, "2 DEAD (1, 0), 3 a stranger (1, 0)", () -> {
      RimCoins x = Promises.of("who a;who b;who c;stranger b;stranger c;");
      x.dies(2, 0);
      int[][] due = {{0, 0}, {0, 1}, {1, 1}};
      for (int w = 0; w < 3; w++) for (int i = 0; i < 2; i++) Edge.due(due[w][i], x.who(w, 2 + i), "who(" + w + ", " + (2 + i) + ")");
    });
    Edge.edge(6, "1 the least WHO of his HOUSE", () -> {
      RimCoins x = Promises.of(Promises.people(3));
      x.wed(2, 1);
      int[] least = {0, 1, 1};
      for (int w = 0; w < 3; w++) Edge.due(least[w], x.who(w, 1), "who(" + w + ", 1)");
      for (int w = 3; w < 24; w++) x.born(0);
      x.wed(23, 0);
      Edge.due(0, x.who(23, 1), "who(23, 1)");
      Edge.due(22, x.who(22, 1), "who(22, 1)");
    });
    Edge.edge(7, "NoSuchElementException: no such ones", () -> {
      RimCoins x = Promises.of("who a;coin 5 a;coin 6 a;");
      for (int c : Edge.NO_PLACES) Edge.none(() -> x.coin(c, 0), "coin(" + c + ", 0)");
      for (int what : Edge.NO_PLACES) Edge.none(() -> x.coin(1, what), "coin(1, " + what + ")");
      Edge.none(() -> x.coin(2, 0), "coin(2, 0)");
      Edge.none(() -> x.coin(1, 5), "coin(1, 5)");
      Edge.due(6, x.coin(1, 0), "the last");
      Edge.due(0, x.coin(1, 4), "the last what");
    });
    Edge.edge(7, "2 how many names on its rim, 3 to how many it GOES", () -> {
      RimCoins x = Promises.of("who a;coin 5 a;coin 6 a a a a;");
      Edge.due(0, x.coin(0, 2), "an empty rim");
      Edge.due(3, x.coin(1, 2), "a full rim");
      Edge.due(0, x.coin(0, 3), "nobody to go to");
      for (int w = 1; w < 24; w++) x.born(0);
      Edge.due(23, x.coin(0, 3), "everybody else");
    });
    Edge.edge(7, "1 a name stands on it twice; 2 its owner is on it; 4 one of two next to one another on it (the owner ahead of the latest)", () -> {
      String people = "who a;who b;who c 1;who d 2;road 0 1;road 1 2;";
      String[] rims = {"a", "a b", "a b b", "a b c b", "a c b c", "a a", "a b b a", "a b c a", "a d", "a c d", "a b c d", "a d a d", "a b d b", "a b d d", "c d a b"};
      int[] forged = {0, 0, 1, 1, 1, 2, 3, 2, 4, 0, 0, 7, 5, 5, 4};
      for (int i = 0; i < rims.length; i++) Edge.due(forged[i], Promises.of(people + "coin 5 " + rims[i] + ";").coin(0, 4), "FORGED of " + rims[i]);
    });
  }

  private static void places() {
    Edge.edge(8, "(0: the latest); NONE: none such", () -> {
      RimCoins x = Promises.of("who a;who b;who c;coin 5 a;coin 5 a b;coin 5 a b c;coin 5 a b c a;");
      int[][] rims = {{-1, -1, -1}, {1, -1, -1}, {1, 2, -1}, {1, 2, 0}};
      for (int c = 0; c < 4; c++) {
        for (int i = 0; i < 3; i++) Edge.due(rims[c][i], x.rim(c, i), "rim(" + c + ", " + i + ")");
        Edge.due(-1, x.rim(c, 3), "rim(" + c + ", 3)");
        for (int i : Edge.NO_PLACES) Edge.due(-1, x.rim(c, i), "rim(" + c + ", " + i + ")");
      }
      for (int i : new int[] {5, 6, 7, 12, 13, 32, 64}) Edge.due(-1, x.rim(3, i), "rim(3, " + i + ")");
      Edge.due(-1, x.rim(4, 0), "rim(4, 0)");
      for (int c : Edge.NO_PLACES) Edge.due(-1, x.rim(c, 0), "rim(" + c + ", 0)");
    });
    Edge.edge(9, "VILLAGES (0 to 3) are NEAR, 0: not; NONE: no such ones", () -> {
      RimCoins x = Promises.of("road 0 3;");
      Edge.due(1, x.near(0, 3), "near(0, 3)");
      Edge.due(0, x.near(0, 2), "near(0, 2)");
      Edge.due(-1, x.near(0, 4), "near(0, 4)");
      Edge.due(-1, x.near(4, 0), "near(4, 0)");
      Edge.due(-1, x.near(4, 4), "near(4, 4)");
      for (int v : Edge.NO_PLACES) {
        Edge.due(-1, x.near(0, v), "near(0, " + v + ")");
        Edge.due(-1, x.near(v, 0), "near(" + v + ", 0)");
        Edge.due(-1, x.near(v, v), "near(" + v + ", " + v + ")");
      }
    });
    Edge.edge(9, "VILLAGES are NEAR, if they are the same, or a road joins them", () -> {
      RimCoins x = Promises.of("road 0 1;road 1 2;");
      int[][] near = {{1, 1, 0, 0}, {1, 1, 1, 0}, {0, 1, 1, 0}, {0, 0, 0, 1}};
      for (int a = 0; a < 4; a++) for (int b = 0; b < 4; b++) Edge.due(near[a][b], x.near(a, b), "near(" + a + ", " + b + ")");
    });
    Edge.edge(10, "false: no such ones, the same, it does already", () -> {
      RimCoins x = Promises.of("road 0 1;");
      for (int v = 0; v < 4; v++) Edge.no(x.road(v, v), "the same");
      Edge.no(x.road(0, 1), "it does already");
      Edge.no(x.road(1, 0), "it does already");
      Edge.no(x.road(0, 4), "road(0, 4)");
      Edge.no(x.road(4, 0), "road(4, 0)");
      for (int v : Edge.NO_PLACES) {
        Edge.no(x.road(0, v), "road(0, " + v + ")");
        Edge.no(x.road(v, 0), "road(" + v + ", 0)");
      }
      Edge.alike(x, Promises.of("road 0 1;"), "behind refused roads");
      Edge.yes(x.road(3, 2), "road(3, 2)");
      Edge.no(x.road(2, 3), "it does now");
      Edge.due(2, x.count(6), "roads");
    });
  }

  private static void going() {
    Edge.edge(11, "1 he is DEAD; 2 he is of its owner's HOUSE; 3 somebody of his HOUSE is on its rim; 4 his VILLAGE is not NEAR its owner's", () -> {
      // a is wed with d, who is far; b with c; e, on a rim, is far; f is wed with a WHO far away.
      RimCoins x = Promises.of("who a;who b;who c;who d 1;who e 1;who f;who g 1;who h;coin 5 a b e f;coin 6 a a;coin 7 a h;");
      x.wed(0, 3);
      x.wed(1, 2);
      x.wed(5, 6);
      int[] before = {2, 3, 3, 2, 3, 3, 3, 0};
      for (int w = 0; w < 8; w++) Edge.due(before[w], x.why(0, w), "why(0, " + w + ")");
      Edge.due(2, x.why(1, 0), "his own name, ahead of the rim");
      Edge.due(2, x.why(1, 3), "the HOUSE, ahead of the rim and the VILLAGE");
      Edge.due(4, x.why(2, 4), "far");
      Edge.due(4, x.why(2, 6), "far");
      Edge.due(0, x.why(2, 1), "it GOES");
      x.dies(3, 7);
      x.dies(4, 7);
      x.dies(1, 7);
      int[] then = {2, 1, 3, 1, 1, 3, 3, 0};
      for (int w = 0; w < 8; w++) Edge.due(then[w], x.why(0, w), "with DEAD ones why(0, " + w + ")");
      Edge.due(1, x.why(2, 4), "DEAD, ahead of far");
    });
    Edge.edge(11, "(0: it GOES); NONE: no such ones", () -> {
      RimCoins x = Promises.of("who a;who b;coin 5 a;");
      Edge.due(0, x.why(0, 1), "why(0, 1)");
      Edge.due(-1, x.why(1, 1), "why(1, 1)");
      Edge.due(-1, x.why(0, 2), "why(0, 2)");
      Edge.due(-1, x.why(0, 33), "why(0, 33)");
      for (int n : Edge.NO_PLACES) {
        Edge.due(-1, x.why(n, 1), "why(" + n + ", 1)");
        Edge.due(-1, x.why(0, n), "why(0, " + n + ")");
      }
    });
    Edge.edge(12, "0, or why it does not; NONE: no such ones", () -> {
      String text = "who a;who b;who c 1;who d;who e;coin 5 a b;coin 6 a;";
      RimCoins x = Promises.of(text), y = Promises.of(text);
      x.dies(4, 3);
      y.dies(4, 3);
      Edge.due(1, x.pay(1, 4), "to one DEAD");
      Edge.due(2, x.pay(0, 0), "to its owner");
      Edge.due(3, x.pay(0, 1), "to one on its rim");
      Edge.due(4, x.pay(0, 2), "to one far away");
      Edge.due(-1, x.pay(2, 1), "pay(2, 1)");
      Edge.due(-1, x.pay(1, 5), "pay(1, 5)");
      for (int n : Edge.NO_PLACES) {
        Edge.due(-1, x.pay(n, 1), "pay(" + n + ", 1)");
        Edge.due(-1, x.pay(1, n), "pay(1, " + n + ")");
      }
      Edge.alike(x, y, "behind refused payments");
      Edge.due(0, x.pay(1, 1), "pay(1, 1)");
      Edge.due(1, x.coin(1, 1), "its owner");
    });
    Edge.edge(13, "as bits; NONE: no such one", () -> {
      RimCoins x = Promises.of("who a;coin 5 a;");
      Edge.due(0, x.whom(0), "nobody");
      for (int w = 1; w < 24; w++) x.born(w == 22 ? 1 : 0);
      Edge.due(0xbffffe, x.whom(0), "all but the one far away");
      Edge.due(-1, x.whom(1), "whom(1)");
      for (int c : Edge.NO_PLACES) Edge.due(-1, x.whom(c), "whom(" + c + ")");
    });
  }

  private static void rims() {
    Edge.edge(12, "what is more than 'rim' tells is rubbed off, the oldest first; he is its owner", () -> {
      for (int r = 0; r < 4; r++) {
        RimCoins x = Promises.of("rim " + r + ";" + Promises.people(6) + "coin 5 a;");
        for (int w = 1; w < 6; w++) {
          Edge.due(0, x.pay(0, w), "pay(0, " + w + ") by 'rim' " + r);
          Edge.due(w, x.coin(0, 1), "owner");
          Edge.due(Math.min(r, w), x.coin(0, 2), "names by 'rim' " + r);
          for (int i = 0; i < 3; i++) Edge.due(i < Math.min(r, w) ? w - 1 - i : -1, x.rim(0, i), "rim(0, " + i + ") by 'rim' " + r);
        }
        Edge.due(r == 3 ? 0b11 : r == 2 ? 0b111 : r == 1 ? 0b1111 : 0b11111, x.whom(0), "who may have it again by 'rim' " + r);
      }
    });
    Edge.edge(12, "somebody of his HOUSE is on its rim", () -> {
      RimCoins x = Promises.of("rim 1;who a;who b;who c;coin 5 a;");
      x.wed(0, 2);
      Edge.due(0, x.pay(0, 1), "to b");
      Edge.due(3, x.pay(0, 0), "back to a");
      Edge.due(3, x.pay(0, 2), "to c of a's HOUSE");
      Edge.due(-1, x.hands(0, 0), "never back");
    });
  }

  private static void exact() {
    Edge.edge(14, "the fewest, of like ones the first (COIN by COIN by numbers: given ahead of kept)", () -> {
      RimCoins x = Promises.of("who a;who b;coin 1 a;coin 4 a;coin 2 a;coin 3 a;coin 5 a;coin 5 a;coin 2 a;");
      int[] sums = {5, 6, 4, 9, 14, 22};
      int[] coins = {1, 2, 1, 2, 3, 7};
      int[] given = {0b0010000, 0b0010001, 0b0000010, 0b0010010, 0b0110010, 0b1111111};
      for (int i = 0; i < sums.length; i++) {
        Edge.due(coins[i], x.exact(0, 1, sums[i]), "exact() of " + sums[i]);
        for (int c = 0; c < 7; c++) Edge.due(given[i] >> c & 1, x.given(c), "given(" + c + ") of " + sums[i]);
      }
      RimCoins y = Promises.of("who a;who b;coin 2 a;coin 3 a;coin 1 a;coin 4 a;");
      Edge.due(2, y.exact(0, 1, 5), "2 and 3, or 1 and 4");
      Edge.due(1, y.given(0), "the first is given");
    });
    Edge.edge(14, "COINS of one WHO that each GO to another one", () -> {
      RimCoins x = Promises.of("who a;who b;who c;coin 5 a b;coin 2 a;coin 3 a;coin 5 b;coin 5 c;");
      Edge.due(2, x.exact(0, 1, 5), "without what does not GO and what is another's");
      Edge.due(1, x.exact(0, 2, 5), "c may have the 5");
      Edge.due(-1, x.exact(0, 0, 5), "himself");
      x.dies(1, 2);
      Edge.due(-1, x.exact(0, 1, 5), "one DEAD");
    });
  }

  private static void exactBounds() {
    Edge.edge(14, "a sum (1 to 999)", () -> {
      RimCoins x = Promises.of("who a;who b;coin 1 a;" + Promises.many("coin 99 a;", 10) + "coin 8 a;");
      Edge.due(1, x.exact(0, 1, 1), "exact() of 1");
      Edge.due(12, x.exact(0, 1, 999), "exact() of 999");
      Edge.due(-2, x.exact(0, 1, 0), "exact() of 0");
      Edge.due(-2, x.exact(0, 1, 1000), "exact() of 1000");
      for (int sum : new int[] {-1, 1001, Integer.MAX_VALUE, Integer.MIN_VALUE}) Edge.due(-2, x.exact(0, 1, sum), "exact() of " + sum);
      RimCoins y = Promises.of("who a;who b;" + Promises.many("coin 24 a;", 40));
      Edge.due(40, y.exact(0, 1, 960), "all 40");
      for (int c = 0; c < 40; c++) Edge.due(1, y.given(c), "given(" + c + ")");
    });
    Edge.edge(14, "how many COINS; NONE: there are none such; -2: no such ones", () -> {
      RimCoins x = Promises.of("who a;who b;coin 5 a;");
      Edge.due(-1, x.exact(0, 1, 4), "less than the least");
      Edge.due(-1, x.exact(0, 1, 6), "more than all");
      Edge.due(-1, x.exact(1, 0, 5), "of one without COINS");
      Edge.due(-2, x.exact(0, 2, 5), "to no WHO");
      Edge.due(-2, x.exact(2, 0, 5), "of no WHO");
      for (int w : Edge.NO_PLACES) {
        Edge.due(-2, x.exact(w, 1, 5), "of WHO " + w);
        Edge.due(-2, x.exact(0, w, 5), "to WHO " + w);
      }
    });
    Edge.edge(15, "by the latest exact() or keep() that was 0 or above (1, 0); NONE: no such one then, or ahead of any", () -> {
      RimCoins x = Promises.of("who a;who b;coin 5 a;coin 6 a;");
      Edge.due(-1, x.given(0), "ahead of any");
      x.exact(0, 1, 7);
      x.exact(0, 1, 0);
      x.keep(0, 1, 7, 1, 5);
      x.keep(0, 1, 0, 1, 5);
      x.settle(0, 1, 7);
      Edge.due(-1, x.given(0), "ahead of any that was 0 or above");
      x.exact(0, 1, 6);
      int[] given = {0, 1, -1};
      for (int c = 0; c < 3; c++) Edge.due(given[c], x.given(c), "given(" + c + ")");
      for (int c : Edge.NO_PLACES) Edge.due(-1, x.given(c), "given(" + c + ")");
      x.exact(0, 1, 7);
      x.keep(0, 1, 5, 1, 5);
      Edge.due(1, x.given(1), "refused calls leave it");
      x.keep(0, 1, 5, 1, 6);
      Edge.due(1, x.given(0), "of keep()");
      Promises.feed(x, "who a;who b;coin 7 a;" + Promises.many("coin 8 a;", 39)).valley();
      Edge.due(0, x.given(1), "another VALLEY leaves it");
      Edge.due(-1, x.given(2), "there was no such one then");
      x.exact(0, 1, 7);
      Edge.due(0, x.given(39), "the last of 40");
      Edge.due(-1, x.given(40), "given(40)");
      Promises.feed(x, "").valley();
      Edge.due(1, x.given(0), "of a VALLEY that is gone");
    });
    Edge.edge(16, "It goes so, COIN by COIN: as exact(); given() is of it, too.", () -> {
      String text = "who a;who b;who c 1;coin 5 a;coin 6 a b;coin 5 a;";
      RimCoins x = Promises.of(text);
      Edge.due(-1, x.settle(0, 1, 6), "what does not GO");
      Edge.due(-1, x.settle(0, 0, 5), "to himself");
      Edge.due(-1, x.settle(0, 2, 5), "to one far away");
      for (int sum : new int[] {0, 1000, -1, Integer.MAX_VALUE, Integer.MIN_VALUE}) Edge.due(-2, x.settle(0, 1, sum), "sum " + sum);
      for (int w : Edge.NO_PLACES) {
        Edge.due(-2, x.settle(w, 1, 5), "of WHO " + w);
        Edge.due(-2, x.settle(0, w, 5), "to WHO " + w);
      }
      Edge.due(-2, x.settle(0, 3, 5), "to WHO 3");
      Edge.alike(x, Promises.of(text), "behind refused calls");
      Edge.due(-1, x.given(0), "given() ahead of any");
      Edge.due(2, x.settle(0, 1, 10), "settle()");
      int[] given = {1, 0, 1, -1};
      for (int c = 0; c < 4; c++) Edge.due(given[c], x.given(c), "given(" + c + ")");
      RimCoins y = Promises.of("who a;who b;" + Promises.many("coin 99 a;", 10) + "coin 9 a;");
      Edge.due(11, y.settle(0, 1, 999), "settle() of 999");
      Edge.due(999, y.who(1, 5), "VALUES");
      Edge.due(-1, y.settle(1, 0, 999), "it does not GO back");
    });
    Edge.edge(17, "NONE: no such ones", () -> {
      RimCoins x = Promises.of("who a;who b;" + Promises.many("coin 99 a;", 40));
      Edge.due(3960, x.most(0, 1), "all");
      Edge.due(0, x.most(1, 0), "none");
      Edge.due(0, x.most(0, 0), "himself");
      Edge.due(-1, x.most(0, 2), "most(0, 2)");
      Edge.due(-1, x.most(2, 0), "most(2, 0)");
      for (int w : Edge.NO_PLACES) {
        Edge.due(-1, x.most(w, 1), "most(" + w + ", 1)");
        Edge.due(-1, x.most(0, w), "most(0, " + w + ")");
      }
    });
    Edge.edge(18, "a sum (1 to 999) EXACT, as bits; NONE: no such ones", () -> {
      RimCoins x = Promises.of("who a;who b;coin 1 a;" + Promises.many("coin 99 a;", 10) + "coin 8 a b;");
      for (int w = 2; w < 24; w++) x.born(w == 22 ? 3 : 0);
      Edge.due(0xbffffe, x.payable(0, 1), "payable(0, 1)");
      Edge.due(0xbffffc, x.payable(0, 999), "payable(0, 999)");
      Edge.due(0, x.payable(0, 2), "payable(0, 2)");
      Edge.due(0, x.payable(23, 1), "payable(23, 1)");
      x.steal(23, 0);
      Edge.due(0x3fffff, x.payable(23, 1) & 0x3fffff, "payable(23, 1) with a COIN");
      Edge.due(0, x.payable(23, 1) >> 22, "neither to one far away nor to himself");
      for (int sum : new int[] {0, 1000, -1, Integer.MAX_VALUE, Integer.MIN_VALUE}) Edge.due(-1, x.payable(0, sum), "payable(0, " + sum + ")");
      Edge.due(-1, x.payable(24, 1), "payable(24, 1)");
      for (int w : Edge.NO_PLACES) Edge.due(-1, x.payable(w, 1), "payable(" + w + ", 1)");
    });
  }

  private static void keeping() {
    Edge.edge(19, "WHO a pays n (1 to 99) to b today, m (1 to 99) to c tomorrow", () -> {
      RimCoins x = Promises.of("who a;who b;who c;coin 99 a;coin 99 a;coin 1 a;coin 1 a;");
      Edge.due(1, x.keep(0, 1, 99, 2, 99), "99 and 99");
      Edge.due(1, x.keep(0, 1, 1, 2, 1), "1 and 1");
      Edge.due(2, x.keep(0, 1, 2, 2, 99), "2 and 99");
      for (int sum : new int[] {0, 100, -1, Integer.MAX_VALUE, Integer.MIN_VALUE}) {
        Edge.due(-2, x.keep(0, 1, sum, 2, 1), "today " + sum);
        Edge.due(-2, x.keep(0, 1, 1, 2, sum), "tomorrow " + sum);
      }
    });
    Edge.edge(19, "such that of those he keeps some come tomorrow exactly to a sum for another one (each GOES to him as it is)", () -> {
      RimCoins x = Promises.of("who a;who b;who c;coin 5 a c;coin 3 a;coin 2 a;coin 4 a b;");
      Edge.due(1, x.keep(0, 1, 5, 2, 4), "the 4 alone of 3, 2 and 4");
      Edge.due(1, x.given(0), "the 5, which does not GO to c");
      Edge.due(1, x.keep(0, 1, 5, 2, 9), "3, 2 and 4");
      Edge.due(-1, x.keep(0, 1, 5, 2, 8), "no three of them");
      Edge.due(-1, x.keep(0, 1, 3, 2, 5), "not the 5, which does not GO to c");
      Edge.due(-1, x.keep(0, 1, 4, 2, 5), "not the 4, which does not GO to b");
      Edge.due(-1, x.keep(0, 1, 10, 2, 1), "nothing but the 4 is left");
      Edge.due(3, x.keep(0, 1, 10, 2, 4), "all but the 4");
    });
    Edge.edge(19, "(sums 1 to 99)", () -> {
      RimCoins x = Promises.of("who a;who b;coin 99 a;coin 1 a;coin 98 a;coin 2 a;");
      Edge.due(1, x.keep(0, 1, 99, 1, 2), "99 and 2");
      Edge.due(1, x.keep(0, 1, 1, 1, 99), "1 and 99");
      Edge.due(1, x.keep(0, 1, 99, 1, 99), "99 and 98 with 1");
      Edge.due(-2, x.keep(0, 1, 100, 1, 99), "100 today");
      Edge.due(-2, x.keep(0, 1, 99, 1, 100), "100 tomorrow");
      Edge.due(-2, x.keep(0, 1, 0, 1, 99), "0 today");
      Edge.due(-2, x.keep(0, 1, 99, 1, 0), "0 tomorrow");
    });
    Edge.edge(19, "NONE: it can't be; -2: no such ones (b, c may be the same)", () -> {
      RimCoins x = Promises.of("who a;who b;who c;coin 5 a;coin 3 a;coin 2 a c;");
      Edge.due(1, x.keep(0, 1, 5, 1, 5), "b twice");
      Edge.due(1, x.given(0), "the 5 goes today");
      Edge.due(2, x.keep(0, 1, 5, 2, 5), "the 2 does not GO to c tomorrow, so it is of today");
      Edge.due(-1, x.keep(0, 1, 3, 2, 7), "the 2 does not GO to c tomorrow");
      Edge.due(-1, x.keep(0, 1, 10, 1, 1), "nothing is kept");
      Edge.due(-1, x.keep(0, 1, 1, 1, 5), "nothing comes to 1");
      Edge.due(-1, x.keep(0, 0, 5, 1, 5), "himself today");
      Edge.due(-1, x.keep(0, 1, 5, 0, 5), "himself tomorrow");
      Edge.due(-1, x.keep(1, 0, 5, 2, 5), "without COINS");
      Edge.due(-2, x.keep(3, 1, 5, 2, 5), "of WHO 3");
      Edge.due(-2, x.keep(0, 3, 5, 2, 5), "to WHO 3 today");
      Edge.due(-2, x.keep(0, 1, 5, 3, 5), "to WHO 3 tomorrow");
      for (int w : Edge.NO_PLACES) {
        Edge.due(-2, x.keep(w, 1, 5, 2, 5), "of WHO " + w);
        Edge.due(-2, x.keep(0, w, 5, 2, 5), "to WHO " + w + " today");
        Edge.due(-2, x.keep(0, 1, 5, w, 5), "to WHO " + w + " tomorrow");
      }
    });
    Edge.edge(19, "the fewest today, of like ones the first as for EXACT", () -> {
      RimCoins x = Promises.of("who a;who b;who c;coin 2 a;coin 3 a;coin 5 a;coin 1 a;coin 4 a;coin 5 a b;");
      Edge.due(1, x.keep(0, 1, 5, 2, 10), "the 5 today, 5 with 3 and 2 or 4 and 1 tomorrow");
      Edge.due(1, x.given(2), "the 5");
      RimCoins z = Promises.of("who a;who b;who c;coin 2 a c;coin 3 a;coin 5 a;coin 5 a b;");
      Edge.due(2, z.keep(0, 1, 5, 2, 10), "both 5 are of tomorrow");
      int[] given = {1, 1, 0, 0, -1};
      for (int c = 0; c < 5; c++) Edge.due(given[c], z.given(c), "given(" + c + ")");
      RimCoins y = Promises.of("who a;who b;who c;coin 3 a;coin 3 a c;coin 3 a;");
      Edge.due(1, y.keep(0, 1, 3, 2, 6), "c may not have COIN 1");
      Edge.due(1, y.given(1), "so it is of today");
    });
  }

  private static void changes() {
    Edge.edge(20, "1 d's owner is no stranger; 2 c does not GO to him; 3 d does not GO to c's owner; 4 VALUE of d is more than that of c less the fee", () -> {
      RimCoins x = Promises.of("who a;who s;who t;stranger s;coin 9 a s;coin 9 s a;coin 9 t s a;coin 9 a;coin 9 s;coin 9 a s;coin 8 s;coin 7 s;");
      Edge.due(1, x.change(0, 2), "all but 4 and 2, and he is no stranger");
      Edge.due(1, x.change(3, 3), "its own, of no stranger");
      Edge.due(2, x.change(0, 1), "s is on c, a on d, and 9 is too much");
      Edge.due(2, x.change(4, 4), "its own, of a stranger");
      Edge.due(2, x.change(4, 6), "both of the stranger");
      Edge.due(3, x.change(3, 1), "a is on d, and 9 is too much");
      Edge.due(4, x.change(3, 4), "9 less 2");
      Edge.due(4, x.change(3, 6), "9 less 2");
      Edge.due(0, x.change(3, 7), "9 less 2 is 7");
      RimCoins y = Promises.of("who a;who s;stranger s;coin 9 a;coin 5 s;");
      y.wed(0, 1);
      Edge.due(2, y.change(0, 1), "of one HOUSE");
    });
    Edge.edge(20, "less the fee (c's VALUE by 'fee', what is left over counting 1)", () -> {
      int[][] fees = {{1, 1, 0}, {1, 99, 0}, {8, 8, 7}, {8, 9, 7}, {8, 16, 14}, {8, 17, 14}, {8, 1, 0}, {8, 2, 1}, {99, 99, 98}, {99, 98, 97}, {99, 1, 0}, {2, 5, 2}, {2, 4, 2}};
      for (int[] f : fees) {
        String text = "fee " + f[0] + ";who a;who s;stranger s;coin " + f[1] + " a;coin ";
        if (f[2] > 0) Edge.due(0, Promises.of(text + f[2] + " s;").change(0, 1), f[1] + " for " + f[2] + " by 'fee' " + f[0]);
        Edge.due(4, Promises.of(text + (f[2] + 1) + " s;").change(0, 1), f[1] + " for " + (f[2] + 1) + " by 'fee' " + f[0]);
      }
    });
    Edge.edge(20, "0, or why not; NONE: no such ones", () -> {
      String text = "who a;who s;stranger s;coin 9 a;coin 8 s;coin 7 s;";
      RimCoins x = Promises.of(text);
      Edge.due(4, x.change(0, 1), "9 for 8");
      Edge.due(1, x.change(1, 0), "for what is of no stranger");
      Edge.due(-1, x.change(3, 1), "change(3, 1)");
      Edge.due(-1, x.change(0, 3), "change(0, 3)");
      for (int c : Edge.NO_PLACES) {
        Edge.due(-1, x.change(c, 2), "change(" + c + ", 2)");
        Edge.due(-1, x.change(0, c), "change(0, " + c + ")");
      }
      Edge.alike(x, Promises.of(text), "behind refused CHANGES");
      Edge.due(0, x.change(0, 2), "9 for 7");
      Edge.due(1, x.coin(0, 1), "c's owner");
      Edge.due(0, x.rim(0, 0), "c's rim");
      Edge.due(0, x.coin(2, 1), "d's owner");
      Edge.due(1, x.rim(2, 0), "d's rim");
    });
  }

  private static void changing() {
    Edge.edge(21, "(what he got more than he gave, each time); NONE: no such one", () -> {
      RimCoins x = Promises.of("who a;who s;who t;stranger s;stranger t;coin 99 a;coin 1 s;coin 1 a;coin 2 s;coin 9 t;");
      for (int w = 0; w < 3; w++) Edge.due(0, x.earned(w), "ahead of any");
      x.change(2, 3);
      Edge.due(0, x.earned(1), "a refused CHANGE");
      x.change(0, 1);
      Edge.due(98, x.earned(1), "99 for 1");
      Edge.due(0, x.earned(0), "he who paid");
      Edge.due(0, x.change(0, 4), "s pays t 99 for 9");
      Edge.due(90, x.earned(2), "t's");
      Edge.due(98, x.earned(1), "as a stranger alone");
      Edge.due(-1, x.earned(3), "earned(3)");
      for (int w : Edge.NO_PLACES) Edge.due(-1, x.earned(w), "earned(" + w + ")");
      x.born(0);
      Edge.due(0, x.earned(3), "a child's");
      Promises.feed(x, "who a;who s;stranger s;").valley();
      Edge.due(0, x.earned(1), "in a new VALLEY");
    });
    Edge.edge(22, "would GO to WHO b then (of like ones the first); NONE: there is none, no such ones", () -> {
      RimCoins x = Promises.of("rim 2;who a;who s;who b;who t 1;stranger s;stranger t;road 0 1;coin 20 a;coin 17 s;coin 9 s;coin 17 t;coin 18 s;coin 9 a b;");
      Edge.due(1, x.changed(0, 2), "two of 17, the first");
      Edge.due(1, x.changed(0, 3), "what t does not have himself");
      Edge.due(3, x.changed(0, 1), "what s does not have himself");
      Edge.due(-1, x.changed(0, 0), "to himself");
      Edge.due(-1, x.changed(5, 2), "9 less 2 is less than all");
      Edge.due(-1, x.changed(6, 2), "changed(6, 2)");
      Edge.due(-1, x.changed(0, 4), "changed(0, 4)");
      for (int n : Edge.NO_PLACES) {
        Edge.due(-1, x.changed(n, 2), "changed(" + n + ", 2)");
        Edge.due(-1, x.changed(0, n), "changed(0, " + n + ")");
      }
      x.dies(2, 0);
      Edge.due(-1, x.changed(0, 2), "to one DEAD");
      RimCoins y = Promises.of("rim 2;who a;who s;who b;stranger s;coin 20 a;coin 9 s a;coin 8 s b s;coin 7 s b;coin 6 s s b;coin 5 s;");
      Edge.due(4, y.changed(0, 2), "the oldest name is rubbed off by then");
      Edge.due(-1, Promises.of("who a;who s;coin 20 a;coin 5 s;").changed(0, 1), "without strangers");
      RimCoins z = Promises.of("who a;who s;who b;stranger s;coin 5 s;coin 5 s;coin 20 a;");
      Edge.due(0, z.changed(2, 2), "COIN 0");
    });
  }

  private static void lives() {
    Edge.edge(23, "true; false: no such ones, his own, he is DEAD", () -> {
      String text = "who a;who b 3;who c;coin 5 a b;";
      RimCoins x = Promises.of(text), y = Promises.of(text);
      x.dies(2, 0);
      y.dies(2, 0);
      Edge.no(x.steal(0, 0), "his own");
      Edge.no(x.steal(2, 0), "he is DEAD");
      Edge.no(x.steal(3, 0), "steal(3, 0)");
      Edge.no(x.steal(1, 1), "steal(1, 1)");
      for (int n : Edge.NO_PLACES) {
        Edge.no(x.steal(n, 0), "steal(" + n + ", 0)");
        Edge.no(x.steal(1, n), "steal(1, " + n + ")");
      }
      Edge.alike(x, y, "behind refused THEFTS");
      Edge.yes(x.steal(1, 0), "by one far away who is on its rim");
    });
    Edge.edge(23, "a WHO not DEAD is its owner, nothing else", () -> {
      RimCoins x = Promises.of("who a;who b 3;coin 5 a b;");
      x.steal(1, 0);
      Edge.due(1, x.coin(0, 1), "owner");
      Edge.due(1, x.coin(0, 2), "names");
      Edge.due(1, x.rim(0, 0), "the rim");
      Edge.due(2, x.coin(0, 4), "FORGED");
    });
    Edge.edge(24, "of two, neither DEAD, each alone in his HOUSE (HOUSES stay as somebody is DEAD)", () -> {
      RimCoins x = Promises.of(Promises.people(6) + "coin 5 a b;");
      Edge.yes(x.wed(1, 2), "two who are alone");
      Edge.no(x.wed(1, 0), "the one is not");
      Edge.no(x.wed(0, 2), "the other one is not");
      Edge.no(x.wed(2, 1), "once more");
      x.dies(2, 0);
      Edge.no(x.wed(1, 0), "his HOUSE stays");
      Edge.due(1, x.who(2, 1), "her HOUSE stays");
      Edge.due(3, x.why(0, 1), "and the COIN does not go to him");
      x.dies(3, 0);
      Edge.no(x.wed(3, 4), "one DEAD");
      Edge.no(x.wed(4, 3), "to one DEAD");
      Edge.yes(x.wed(5, 4), "two who are alone");
    });
    Edge.edge(24, "true; false: no such ones, not as told", () -> {
      RimCoins x = Promises.of("who a;who b 3;");
      Edge.no(x.wed(0, 0), "himself");
      Edge.no(x.wed(0, 2), "wed(0, 2)");
      Edge.no(x.wed(2, 0), "wed(2, 0)");
      for (int w : Edge.NO_PLACES) {
        Edge.no(x.wed(0, w), "wed(0, " + w + ")");
        Edge.no(x.wed(w, 0), "wed(" + w + ", 0)");
        Edge.no(x.wed(w, w), "wed(" + w + ", " + w + ")");
      }
      Edge.alike(x, Promises.of("who a;who b 3;"), "behind refused WEDDINGS");
      for (int w = 2; w < 24; w++) x.born(0);
      Edge.yes(x.wed(23, 0), "wed(23, 0)");
    });
    Edge.edge(25, "a WHO more (24 at most), without a NAME that is told", () -> {
      RimCoins x = Promises.of(Promises.people(16));
      for (int w = 16; w < 24; w++) Edge.due(w, x.born(w & 3), "the BIRTH of " + w);
      Edge.due(-1, x.born(0), "the 25th");
      Edge.due(24, x.count(0), "WHOS");
      Edge.due(3, x.who(23, 0), "the last one's VILLAGE");
      Edge.due(23, x.who(23, 1), "the last one's HOUSE");
      Edge.due(-6, Promises.feed(x, "held q").sentence(), "none has a NAME");
      RimCoins y = new RimCoins();
      for (int w = 0; w < 24; w++) Edge.due(w, y.born(0), "in an empty VALLEY the BIRTH of " + w);
      for (char name = 'a'; name <= 'z'; name++) Edge.due(-6, Promises.feed(y, "held " + name).sentence(), "held " + name);
      Edge.due(-1, y.born(0), "the 25th");
    });
    Edge.edge(25, "in a VILLAGE (0 to 3): the WHO; NONE: no such one, there are 24", () -> {
      RimCoins x = new RimCoins();
      Edge.due(-1, x.born(4), "born(4)");
      for (int v : Edge.NO_PLACES) Edge.due(-1, x.born(v), "born(" + v + ")");
      Edge.due(0, x.count(0), "nobody is born");
      Edge.due(0, x.born(0), "born(0)");
      Edge.due(1, x.born(3), "born(3)");
      Edge.due(3, x.who(1, 0), "his VILLAGE");
    });
  }

  private static void deaths() {
    Edge.edge(26, "how many COINS the heir has of him; NONE: no such ones, not as told", () -> {
      String text = "who a;who b;who c;coin 5 b a;coin 6 a b;coin 7 b;";
      RimCoins x = Promises.of(text);
      Edge.due(-1, x.dies(1, 1), "himself");
      Edge.due(-1, x.dies(1, 3), "dies(1, 3)");
      Edge.due(-1, x.dies(3, 1), "dies(3, 1)");
      for (int w : Edge.NO_PLACES) {
        Edge.due(-1, x.dies(1, w), "dies(1, " + w + ")");
        Edge.due(-1, x.dies(w, 1), "dies(" + w + ", 1)");
      }
      Edge.alike(x, Promises.of(text), "behind refused DEATHS");
      Edge.due(2, x.dies(1, 0), "two COINS");
      Edge.due(0, x.dies(2, 0), "no COINS");
      RimCoins y = Promises.of("who a;who b;" + Promises.many("coin 5 a;", 40));
      Edge.due(40, y.dies(0, 1), "all COINS");
      Edge.due(40, y.who(1, 4), "COINS of the heir");
    });
    Edge.edge(26, "his COINS are the heir's (another one, not DEAD), else as in a THEFT", () -> {
      String text = "who a;who b 2;who c;coin 5 a c;";
      RimCoins x = Promises.of(text), y = Promises.of(text);
      Edge.due(0, x.dies(2, 0), "the first DEATH");
      y.dies(2, 0);
      Edge.due(-1, x.dies(0, 2), "an heir who is DEAD");
      Edge.due(-1, x.dies(2, 1), "one DEAD already");
      Edge.alike(x, y, "behind refused DEATHS");
      Edge.due(1, x.dies(0, 1), "an heir far away");
      Edge.due(1, x.coin(0, 1), "owner");
      Edge.due(1, x.coin(0, 2), "names");
      Edge.due(2, x.rim(0, 0), "the rim");
      Edge.due(1, x.who(0, 2), "DEAD");
    });
    Edge.edge(26, "'rubbed': it is gone from all; 'stays': it stays; 'heirs': it is the heir's", () -> {
      String[] laws = {"rubbed", "stays", "heirs"};
      String[] rims = {"a b b b", "a b", "a b c b", "a c b c", "b", "a c c c", "a a b a"};
      int[][][] due = {
        {{-1, -1, -1}, {-1, -1, -1}, {2, -1, -1}, {2, 2, -1}, {-1, -1, -1}, {2, 2, 2}, {0, 0, -1}},
        {{1, 1, 1}, {1, -1, -1}, {1, 2, 1}, {2, 1, 2}, {-1, -1, -1}, {2, 2, 2}, {0, 1, 0}},
        {{3, 3, 3}, {3, -1, -1}, {3, 2, 3}, {2, 3, 2}, {-1, -1, -1}, {2, 2, 2}, {0, 3, 0}}};
      StringBuilder coins = new StringBuilder();
      for (String rim : rims) coins.append("coin 5 ").append(rim).append(';');
      for (int law = 0; law < 3; law++) {
        RimCoins x = Promises.of("who a;who b;who c;who d;dead " + laws[law] + ";" + coins);
        Edge.due(1, x.dies(1, 3), "dies()");
        for (int c = 0; c < rims.length; c++) {
          for (int i = 0; i < 3; i++) Edge.due(due[law][c][i], x.rim(c, i), "name " + i + " of '" + rims[c] + "' by '" + laws[law] + "'");
        }
      }
    });
  }

  private static void stuck() {
    Edge.edge(27, "STUCK: a COIN that GOES to nobody", () -> {
      Edge.due(1, Promises.of("who a;coin 5 a;").stuck(-1), "one alone");
      Edge.due(0, Promises.of("who a;who b;coin 5 a;").stuck(-1), "two");
      Edge.due(1, Promises.of("who a;who b;coin 5 a b;").stuck(-1), "the other one is on its rim");
      Edge.due(1, Promises.of("who a;who b 1;coin 5 a;").stuck(-1), "the other one is far");
      Edge.due(0, Promises.of("who a;who b 1;road 1 0;coin 5 a;").stuck(-1), "a road to the other one");
      RimCoins x = Promises.of("who a;who b;who c;coin 5 a;");
      x.wed(0, 1);
      Edge.due(0, x.stuck(-1), "two HOUSES");
      x.dies(2, 0);
      Edge.due(1, x.stuck(-1), "the other HOUSE is DEAD");
    });
    Edge.edge(27, "how many (k NONE), or the k-th. NONE: none such", () -> {
      RimCoins x = Promises.of("who a;who b;coin 5 a;" + Promises.many("coin 5 a b;", 39));
      Edge.due(39, x.stuck(-1), "how many");
      Edge.due(1, x.stuck(0), "the first");
      Edge.due(39, x.stuck(38), "the last");
      Edge.due(-1, x.stuck(39), "stuck(39)");
      for (int k : new int[] {40, 63, 64, 100, -2, Integer.MAX_VALUE, Integer.MIN_VALUE}) Edge.due(-1, x.stuck(k), "stuck(" + k + ")");
      x.born(0);
      Edge.due(0, x.stuck(-1), "none");
      Edge.due(-1, x.stuck(0), "stuck(0) of none");
      x.dies(2, 0);
      Edge.due(39, x.stuck(-1), "one DEAD takes none");
    });
    Edge.edge(28, "(also where there are 24 WHOS)", () -> {
      RimCoins x = Promises.of("rim 0;who a;who b 3;coin 5 a;coin 5 a;coin 5 b;");
      for (int w = 2; w < 23; w++) x.born(2);
      Edge.due(2, x.frees(0), "with 23");
      x.born(2);
      Edge.due(24, x.count(0), "WHOS");
      int[] frees = {2, 0, 0, 1};
      for (int v = 0; v < 4; v++) Edge.due(frees[v], x.frees(v), "with 24 frees(" + v + ")");
      Edge.due(0, x.cradle(), "cradle() with 24");
      Edge.due(24, x.count(0), "nobody is born");
    });
    Edge.edge(28, "How many are FREED by a BIRTH in a VILLAGE; NONE: no such one", () -> {
      RimCoins x = Promises.of("who a;who b 1;who c;road 1 2;coin 5 a c;coin 5 b;coin 5 c;coin 5 b a;");
      int[] frees = {1, 2, 2, 0};
      for (int v = 0; v < 4; v++) Edge.due(frees[v], x.frees(v), "frees(" + v + ")");
      Edge.due(-1, x.frees(4), "frees(4)");
      for (int v : Edge.NO_PLACES) Edge.due(-1, x.frees(v), "frees(" + v + ")");
    });
  }

  private static void villages() {
    Edge.edge(29, "The VILLAGE in which most are (of like ones the first)", () -> {
      Edge.due(0, new RimCoins().cradle(), "none anywhere");
      Edge.due(0, Promises.of("who a;who b;coin 5 a;").cradle(), "none anywhere");
      Edge.due(3, Promises.of("who a 3;coin 5 a;").cradle(), "the last");
      Edge.due(1, Promises.of("who a 3;who b 1;coin 5 a;coin 5 b;").cradle(), "one in each of two");
      Edge.due(3, Promises.of("who a 3;who b 1;coin 5 a;coin 5 b;coin 5 a;").cradle(), "two in the latter");
      Edge.due(0, Promises.of("who a 3;road 3 0;coin 5 a;").cradle(), "NEAR one ahead of it");
    });
    Edge.edge(30, "10 times the lesser and the other (of like ones the first); NONE: all are NEAR", () -> {
      Edge.due(1, new RimCoins().opens(), "all alike");
      Edge.due(2, Promises.of("road 0 1;").opens(), "all alike but the first");
      Edge.due(13, Promises.of("who a 3;who b 1;coin 5 a;").opens(), "1 and 3");
      Edge.due(23, Promises.of("who a 3;who b 2;coin 5 a;coin 5 b;").opens(), "2 and 3");
      Edge.due(3, Promises.of("who a 3;who b 2;who c;coin 5 a;").opens(), "0 and 3 ahead of 2 and 3");
      RimCoins x = Promises.of("road 0 1;road 0 2;road 0 3;road 1 2;road 1 3;");
      Edge.due(23, x.opens(), "the one that is left");
      Edge.due(5, x.count(6), "nothing is built");
      x.road(3, 2);
      Edge.due(-1, x.opens(), "all are NEAR");
      RimCoins y = Promises.of("who a 3;who b 2;who c;coin 5 a;");
      y.steal(1, 0);
      Edge.due(2, y.opens(), "b has it now, so 0 and 2 ahead of 2 and 3");
      y.road(0, 2);
      Edge.due(1, y.opens(), "none is STUCK now");
    });
  }
}
