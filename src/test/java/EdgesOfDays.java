/** Boundaries of searches, DEBTS, DAYS, what is said, images and counts: promises 31 to 43 and 45 to 48. */
final class EdgesOfDays {
  private static final int[] SEEDS = {0, 1, -1, 12345, 99, Integer.MAX_VALUE, Integer.MIN_VALUE, 0x7fffff00, -255, 1103515245};

  private EdgesOfDays() { }

  static void all() {
    hands();
    rounds();
    debts();
    orders();
    orderPlaces();
    ways();
    days();
    dayBounds();
    births();
    trade();
    said();
    images();
    counts();
  }

  private static void hands() {
    Edge.edge(31, "how many (0: it is his); NONE: by none, no such ones", () -> {
      RimCoins x = Promises.of("who a;who b;who c 1;who d;coin 5 a;coin 5 a b;coin 5 c;");
      Edge.due(0, x.hands(0, 0), "his own");
      Edge.due(1, x.hands(0, 1), "one");
      Edge.due(-1, x.hands(0, 2), "far");
      Edge.due(-1, x.hands(1, 1), "b is on its rim, and too few are there to rub him off");
      Edge.due(-1, x.hands(2, 0), "stuck");
      Edge.due(0, x.hands(2, 2), "stuck, his own");
      x.dies(3, 0);
      Edge.due(-1, x.hands(0, 3), "one DEAD");
      Edge.due(-1, x.hands(3, 0), "hands(3, 0)");
      Edge.due(-1, x.hands(0, 4), "hands(0, 4)");
      for (int n : Edge.NO_PLACES) {
        Edge.due(-1, x.hands(n, 0), "hands(" + n + ", 0)");
        Edge.due(-1, x.hands(0, n), "hands(0, " + n + ")");
      }
    });
    Edge.edge(31, "the fewest times that it goes; of like ones the first row of those who have it then (hand by hand the lesser WHO)", () -> {
      RimCoins x = Promises.of("who a;who b 1;who c 2;who d 1;who e 2;who f 3;road 0 1;road 0 2;road 1 3;road 2 3;coin 5 a;");
      row(x, 5, 1, 5);
      x.steal(3, 0);
      row(x, 4, 0, 4);
      RimCoins y = Promises.of("rim 2;" + Promises.people(6) + "coin 5 d c a;");
      row(y, 2, 0 == y.why(0, 1) ? 1 : 0, 0, 2);
      RimCoins z = Promises.of("rim 3;" + Promises.people(5) + "coin 5 e;");
      row(z, 0, 0);
      z.pay(0, 0);
      row(z, 4, 1, 2, 3, 4);
      row(Promises.of("rim 2;" + Promises.people(5) + "coin 5 e d;"), 3, 0, 1, 3);
      row(Promises.of("rim 3;" + Promises.people(5) + "coin 5 e d;"), 3, 0, 1, 2, 3);
      row(Promises.of("rim 1;who a 3;who b 3;who c 2;who d;who e 3;who f 1;road 0 1;road 0 2;road 2 3;coin 5 b c;"), 3, 0, 2, 3);
    });
    Edge.edge(31, "COIN c comes to WHO w: how many (0: it is his)", () -> {
      RimCoins x = Promises.of("who a;who b;who c;who d 2;coin 5 a b c d;");
      for (int w = 4; w < 23; w++) x.born(w % 3);
      x.born(3);
      Edge.due(24, x.count(0), "WHOS");
      x.road(0, 1);
      for (int times = 0; times < 2; times++) {
        row(x, 1, 4, 6, 2, 1);
        Edge.due(-1, x.hands(0, 23), "no road leads to him");
        Edge.due(-1, x.hands(0, 3), "no road leads to d");
        row(x, 22, 22);
      }
      x.road(1, 2);
      row(x, 3, 4, 3);
      row(x, 5, 4, 5);
      Edge.due(1, x.ever(0), "ever(0) with 24");
      Edge.due(-1, x.again(0), "d is not NEAR c");
    });
    Edge.edge(32, "by the latest hands() that was 0 or above; NONE: there is none such, or ahead of any", () -> {
      RimCoins x = Promises.of("rim 3;" + Promises.people(5) + "who f 1;coin 5 a b;coin 5 a;");
      Edge.due(-1, x.handAt(0), "ahead of any");
      Edge.due(-1, x.hands(0, 5), "far");
      Edge.due(-1, x.handAt(0), "ahead of any that was 0 or above");
      row(x, 1, 2, 3, 4, 1);
      x.hands(0, 5);
      x.hands(0, 6);
      x.hands(-1, 0);
      x.again(0);
      x.ever(0);
      Edge.due(2, x.handAt(0), "refused calls leave it");
      Edge.due(1, x.handAt(3), "the last");
      Edge.due(-1, x.handAt(4), "behind the last");
      for (int i : Edge.NO_PLACES) Edge.due(-1, x.handAt(i), "handAt(" + i + ")");
      Promises.feed(x, "").valley();
      Edge.due(1, x.handAt(3), "another VALLEY leaves it");
      Promises.feed(x, "who a;coin 5 a;").valley();
      Edge.due(0, x.hands(0, 0), "his own");
      Edge.due(-1, x.handAt(0), "nobody");
    });
  }

  private static void row(RimCoins x, int w, int... hands) {
    Edge.due(hands.length, x.hands(0, w), "hands(0, " + w + ")");
    for (int i = 0; i < hands.length; i++) Edge.due(hands[i], x.handAt(i), "hand " + i + " on the way to " + w);
    Edge.due(-1, x.handAt(hands.length), "behind the last on the way to " + w);
  }

  private static void rounds() {
    Edge.edge(33, "till it is as it is now (owner and rim); NONE: never so, no such one", () -> {
      String[] rims = {"a", "a b", "a b c", "a b c d"};
      for (int r = 0; r < 4; r++) {
        for (int n = 1; n < 7; n++) {
          if (n <= r) continue;
          RimCoins x = Promises.of("rim " + r + ";" + Promises.people(n) + "coin 5 " + rims[r] + ";coin 5 a;");
          Edge.due(n >= r + 2 ? r + 2 : -1, x.again(0), "again(0) by 'rim' " + r + " with " + n);
          Edge.due(r == 0 && n >= 2 ? 2 : -1, x.again(1), "again(1) by 'rim' " + r + " with " + n);
        }
      }
      RimCoins x = Promises.of(Promises.people(6) + "coin 5 a b c c;coin 5 a b c a;coin 5 a b c d;");
      Edge.due(-1, x.again(0), "a name twice");
      Edge.due(-1, x.again(1), "its owner on it");
      Edge.due(5, x.again(2), "a full rim");
      x.wed(1, 3);
      Edge.due(-1, x.again(2), "two of one HOUSE");
      Edge.due(-1, x.again(3), "again(3)");
      for (int c : Edge.NO_PLACES) Edge.due(-1, x.again(c), "again(" + c + ")");
      Edge.due(3, Promises.of("rim 1;who a 2;who b;who c;who d;coin 5 c d;").again(0), "three of four");
      RimCoins y = Promises.of("rim 1;who a;who b;who c;who d;coin 5 a b;");
      Edge.due(3, y.again(0), "round");
      y.dies(1, 3);
      Edge.due(-1, y.again(0), "one DEAD on it");
    });
    Edge.edge(34, "1: COIN c can go on FOR EVER, 0: not; NONE: no such one", () -> {
      for (int r = 0; r < 4; r++) {
        for (int n = 1; n < 7; n++) {
          RimCoins x = Promises.of("rim " + r + ";" + Promises.people(n) + "coin 5 a;");
          Edge.due(n >= r + 2 ? 1 : 0, x.ever(0), "ever(0) by 'rim' " + r + " with " + n);
        }
      }
      RimCoins x = Promises.of("who a;who b;who c;who d;who e;coin 5 a;coin 5 a b b b;");
      Edge.due(1, x.ever(1), "a forged one, too");
      x.wed(3, 4);
      Edge.due(0, x.ever(0), "four HOUSES");
      x.born(0);
      Edge.due(1, x.ever(0), "five HOUSES");
      x.dies(5, 0);
      Edge.due(0, x.ever(0), "one DEAD");
      Edge.due(-1, x.ever(2), "ever(2)");
      for (int c : Edge.NO_PLACES) Edge.due(-1, x.ever(c), "ever(" + c + ")");
    });
    Edge.edge(34, "FOR EVER: it can go on and on", () -> {
      String people = "rim 1;who a 1;who b;who c;who d;";
      Edge.due(0, Promises.of(people + "coin 5 a;").ever(0), "without a road to the three");
      Edge.due(1, Promises.of(people + "road 0 1;coin 5 a;").ever(0), "by a road to the three");
      Edge.due(0, Promises.of("rim 1;who a 1;who b 1;road 0 1;who c 2;road 0 2;coin 5 a;").ever(0), "two and none behind");
      Edge.due(1, Promises.of("rim 0;who a;who b;coin 5 b;").ever(0), "by the first WHO");
      Edge.due(1, Promises.of("rim 1;who a;who b 2;who c 1;who d 2;road 0 1;road 1 2;coin 5 c d;").ever(0), "a leads nowhere");
      Edge.due(1, Promises.of("rim 2;who a;who b 2;who c;who d 3;who e 1;road 0 1;road 0 3;road 2 3;coin 5 c;").ever(0), "c, d, a, e");
      Edge.due(0, Promises.of("rim 3;who a 2;who b 1;who c 2;who d 1;who e 1;who f 3;road 0 3;road 1 3;road 2 3;coin 5 c;").ever(0), "f once");
      Edge.due(0, Promises.of("rim 3;who a 2;who b 1;who c 2;who d 1;who e 1;who f 3;road 0 3;road 1 3;road 2 3;coin 5 b;").ever(0), "f once");
      String behind = "rim 1;who a;who b 1;who c 2;who d 3;who e 3;road 0 1;road 0 2;";
      Edge.due(0, Promises.of(behind + "coin 5 a;").ever(0), "b and c lead nowhere");
      Edge.due(1, Promises.of(behind + "road 2 3;coin 5 a;").ever(0), "c leads on, where b does not");
      RimCoins x = Promises.of("who a;who b 1;who c 1;who d 2;who e 3;who f 3;road 0 1;road 1 2;road 2 3;coin 5 a;");
      Edge.due(0, x.ever(0), "the same is come to by two ways, but not twice");
      Edge.due(0, x.ever(0), "asked once more");
      x.road(0, 2);
      Edge.due(0, x.ever(0), "four and two");
      x.road(0, 3);
      Edge.due(1, x.ever(0), "a round of five");
    });
  }

  private static void debts() {
    Edge.edge(35, "NoSuchElementException: no such ones", () -> {
      RimCoins x = Promises.of("who a;who b;owes a b 1;owes b a 999;");
      Edge.due(1, x.debt(0, 2), "the least");
      Edge.due(999, x.debt(1, 2), "the most");
      Edge.due(0, x.debt(1, 3), "the last");
      Edge.none(() -> x.debt(2, 0), "debt(2, 0)");
      Edge.none(() -> x.debt(0, 4), "debt(0, 4)");
      for (int n : Edge.NO_PLACES) {
        Edge.none(() -> x.debt(n, 0), "debt(" + n + ", 0)");
        Edge.none(() -> x.debt(0, n), "debt(0, " + n + ")");
      }
    });
    Edge.edge(36, "how many COINS; NONE: it can't be now; -2: no such one, it is already", () -> {
      String text = "who a;who b;who c 1;coin 5 a;coin 6 a b;owes a b 6;owes a b 4;owes a c 5;owes b a 5;owes a b 5;";
      RimCoins x = Promises.of(text);
      Edge.due(-1, x.clear(0), "what does not GO");
      Edge.due(-1, x.clear(1), "not exactly");
      Edge.due(-1, x.clear(2), "far");
      Edge.due(-1, x.clear(3), "without COINS");
      Edge.due(-2, x.clear(5), "clear(5)");
      for (int k : Edge.NO_PLACES) Edge.due(-2, x.clear(k), "clear(" + k + ")");
      Edge.alike(x, Promises.of(text), "behind refused calls");
      Edge.due(1, x.clear(4), "clear(4)");
      Edge.due(1, x.debt(4, 3), "CLEARED");
      Edge.due(-2, x.clear(4), "it is already");
      Edge.due(-1, x.clear(3), "the 5 does not GO back");
      RimCoins y = Promises.of("who a;who b;" + Promises.many("coin 99 a;", 10) + "coin 9 a;owes a b 999;owes a b 999;");
      Edge.due(11, y.clear(1), "999");
      Edge.due(-1, y.clear(0), "nothing is left for its like");
    });
  }

  private static void orders() {
    Edge.edge(36, "CLEARED: a DEBT is paid EXACT by him who owes it (once)", () -> {
      RimCoins x = Promises.of("who a;who b;coin 5 a;coin 5 a;coin 3 a;coin 2 a;owes a b 5;owes a b 5;");
      Edge.due(1, x.clear(0), "the fewest");
      Edge.due(1, x.coin(0, 1), "the first");
      Edge.due(0, x.coin(1, 1), "the second is kept");
      Edge.due(-2, x.clear(0), "once more");
      Edge.due(5, x.who(1, 5), "nothing more is paid");
      Edge.due(1, x.clear(1), "its like");
      Edge.due(10, x.who(1, 5), "twice 5");
    });
    Edge.edge(37, "one by one, those that can't be then are left out; the most that are CLEARED by any", () -> {
      RimCoins x = Promises.of("rim 1;who a;who b;who c;coin 5 a;owes b c 5;owes a b 5;owes c a 5;owes a b 6;");
      Edge.due(2, Promises.orders(x, 0, 1), "b can pay c only behind a");
      int[] due = {1, 0};
      for (int i = 0; i < 2; i++) Edge.due(due[i], x.orderAt(i), "orderAt(" + i + ")");
      Edge.due(0, Promises.orders(x, 0), "b has nothing");
      Edge.due(0, Promises.orders(x, 0, 2, 3), "nobody can");
      Edge.due(3, Promises.orders(x, 3, 2, 0, 1), "round");
      int[] round = {3, 1, 0, 2};
      for (int i = 0; i < 4; i++) Edge.due(round[i], x.orderAt(i), "orderAt(" + i + ") of the round");
    });
    Edge.edge(37, "BY AN ORDER of some DEBTS (1 to 5)", () -> {
      RimCoins x = Promises.of("who a;who b;" + Promises.many("coin 1 a;", 12) + Promises.many("owes a b 1;", 12));
      Edge.due(-1, Promises.orders(x), "none");
      Edge.due(1, Promises.orders(x, 11), "one");
      Edge.due(5, Promises.orders(x, 11, 0, 10, 1, 5), "five");
      Edge.due(-1, Promises.orders(x, 0, 1, 2, 3, 4, 5), "six");
      Edge.due(-1, x.feed(0x00010203, 0x04050607, 0x08090a0b, 0, 0) == 20 ? x.orders() : 0, "twenty");
    });
    Edge.edge(37, "(a byte each, its number; unlike, none CLEARED)", () -> {
      RimCoins x = Promises.of("who a;who b;coin 5 a;owes a b 5;owes a b 6;");
      Edge.due(-1, Promises.orders(x, 2), "no such DEBT");
      Edge.due(-1, Promises.orders(x, 0, 2), "no such DEBT");
      for (int k : new int[] {11, 12, 32, 33, 64, 127, 128, 129, 255, '0'}) Edge.due(-1, Promises.orders(x, k), "DEBT " + k);
      Edge.due(-1, Promises.orders(x, 0, 0), "like ones");
      Edge.due(-1, Promises.orders(x, 0, 1, 0), "like ones");
      Edge.due(1, Promises.orders(x, 0, 1), "unlike ones");
      x.clear(0);
      Edge.due(-1, Promises.orders(x, 0), "CLEARED");
      Edge.due(-1, Promises.orders(x, 1, 0), "one CLEARED");
      Edge.due(0, Promises.orders(x, 1), "the other one");
      Edge.due(-1, Promises.orders(new RimCoins(), 0), "of an empty VALLEY");
    });
    Edge.edge(37, "Nothing is paid", () -> {
      String text = "who a;who b;who c;coin 5 a;coin 3 a;owes a b 5;owes b c 5;owes a c 3;";
      RimCoins x = Promises.of(text);
      Edge.due(3, Promises.orders(x, 0, 1, 2), "all");
      Edge.alike(x, Promises.of(text), "behind orders()");
      Edge.due(-1, x.given(0), "given()");
    });
  }

  private static void orderPlaces() {
    Edge.edge(38, "the first order of all of these (those left out, too; as they are told, place by place)", () -> {
      RimCoins x = Promises.of("who a;who b;who c;coin 5 a;coin 5 a;owes a b 5;owes b c 5;owes a c 7;owes c a 5;owes a c 5;");
      order(x, 2, 0, 1, 2, 3);
      order(x, 3, 0, 4, 1);
      order(x, 0, 2);
      order(x, 1, 4);
      RimCoins y = Promises.of("who a;who b;who c;who d;coin 5 a;owes c d 5;owes b c 5;owes a b 5;owes d a 9;");
      Edge.due(3, Promises.orders(y, 3, 0, 1, 2), "orders()");
      int[] due = {3, 2, 1, 0, -1};
      for (int i = 0; i < 5; i++) Edge.due(due[i], y.orderAt(i), "orderAt(" + i + "): the one left out first");
      Edge.due(3, Promises.orders(y, 0, 1, 2, 3), "orders()");
      int[] other = {2, 1, 0, 3, -1};
      for (int i = 0; i < 5; i++) Edge.due(other[i], y.orderAt(i), "orderAt(" + i + "): the one left out last");
    });
    Edge.edge(38, "by the latest orders() that was not NONE; NONE: there is none such, or ahead of any", () -> {
      RimCoins x = Promises.of("who a;who b;coin 5 a;owes a b 5;owes a b 6;owes a b 7;owes a b 8;owes a b 9;");
      Edge.due(-1, x.orderAt(0), "ahead of any");
      Promises.orders(x, 0, 0);
      Edge.due(-1, x.orderAt(0), "ahead of any that was not NONE");
      order(x, 1, 4, 3, 2, 1, 0);
      for (int i : Edge.NO_PLACES) Edge.due(-1, x.orderAt(i), "orderAt(" + i + ")");
      Edge.due(-1, x.orderAt(5), "orderAt(5)");
      Promises.orders(x, 1, 1);
      Promises.orders(x);
      Promises.orders(x, 0, 1, 9);
      Edge.due(4, x.orderAt(0), "NONE leaves it");
      Edge.due(2, x.orderAt(2), "NONE leaves it");
      order(x, 0, 3);
      Promises.feed(x, "").valley();
      Edge.due(3, x.orderAt(0), "another VALLEY leaves it");
    });
  }

  private static void order(RimCoins x, int paid, int... told) {
    Edge.due(paid, Promises.orders(x, told), "orders()");
    for (int i = 0; i < told.length; i++) Edge.due(told[i], x.orderAt(i), "orderAt(" + i + ")");
    Edge.due(-1, x.orderAt(told.length), "orderAt(" + told.length + ")");
  }

  private static void ways() {
    Edge.edge(39, "WAYS of n (1 to 5)", () -> {
      RimCoins x = Promises.of("rim 0;" + Promises.people(3) + "coin 5 a;");
      int[] many = {-1, 1, 1, 3, 5, 11, -1};
      for (int n = 0; n < 7; n++) Edge.due(many[n], x.ways(0, 1, n), "ways(0, 1, " + n + ")");
      for (int n : Edge.NO_PLACES) Edge.due(-1, x.ways(0, 1, n), "ways(0, 1, " + n + ")");
    });
    Edge.edge(39, "how many; NONE: no such ones", () -> {
      RimCoins x = Promises.of("rim 1;who a;who b;coin 5 a b;");
      Edge.due(1, x.ways(0, 1, 1), "ways(0, 1, 1)");
      Edge.due(0, x.ways(0, 0, 1), "ways(0, 0, 1)");
      Edge.due(-1, x.ways(1, 1, 1), "ways(1, 1, 1)");
      Edge.due(-1, x.ways(0, 2, 1), "ways(0, 2, 1)");
      for (int m : Edge.NO_PLACES) {
        Edge.due(-1, x.ways(m, 1, 1), "ways(" + m + ", 1, 1)");
        Edge.due(-1, x.ways(0, m, 1), "ways(0, " + m + ", 1)");
      }
      Edge.due(-1, new RimCoins().ways(0, 0, 1), "in an empty VALLEY");
    });
    Edge.edge(39, "of a first owner with nothing on its rim goes", () -> {
      // By 'rim' r a COIN that has gone n times bears as many names as are less, n or r.
      String[] rims = {"f", "f e", "f e d", "f e d c"};
      int[][] many = {{1, 4, 21, 104, 521}, {0, 0, 0, 0, 0}, {0, 0, 0, 0, 0}, {0, 0, 0, 0, 0}};
      for (int r = 0; r < 4; r++) {
        RimCoins x = Promises.of("rim " + r + ";" + Promises.people(6) + "coin 5 " + rims[r] + ";");
        for (int n = 1; n <= 5; n++) {
          int sum = 0;
          for (int first = 0; first < 6; first++) sum += x.ways(0, first, n);
          boolean can = n >= r;
          Edge.due(can ? 1 : 0, sum > 0 ? 1 : 0, "any WAYS of " + n + " by 'rim' " + r);
          if (r == 0) Edge.due(many[0][n - 1], x.ways(0, 0, n), "WAYS of " + n + " without a rim");
        }
      }
      RimCoins x = Promises.of("rim 2;" + Promises.people(6) + "coin 5 f e;coin 5 f;coin 5 f e d;");
      Edge.due(1, x.ways(0, 4, 1), "one go, one name");
      Edge.due(0, x.ways(0, 3, 1), "from another one");
      Edge.due(0, x.ways(2, 2, 2), "from another one");
      Edge.due(0, x.ways(0, 3, 2), "two goes, one name");
      Edge.due(0, x.ways(1, 4, 1), "one go, no name");
      Edge.due(1, x.ways(2, 3, 2), "two goes, two names");
      Edge.due(0, x.ways(2, 4, 1), "one go, two names");
      Edge.due(1, x.ways(2, 0, 3), "three goes, two names");
    });
    Edge.edge(39, "(by the PEOPLE, HOUSES, VILLAGES, DEAD as they are now)", () -> {
      RimCoins x = Promises.of("rim 1;who a;who b;who c;who d;who e 1;coin 5 a b;");
      Edge.due(2, x.ways(0, 0, 3), "over c or d, then b");
      Edge.due(0b1100, x.had(0), "c or d");
      x.road(0, 1);
      Edge.due(3, x.ways(0, 0, 3), "over e, too");
      Edge.due(0b11100, x.had(0), "c, d or e");
      x.born(1);
      Edge.due(4, x.ways(0, 0, 3), "over the child, too");
      x.dies(3, 2);
      Edge.due(3, x.ways(0, 0, 3), "not over d, who is DEAD");
      x.wed(2, 1);
      Edge.due(2, x.ways(0, 0, 3), "not over c, whose HOUSE is b's");
      Edge.due(0b110000, x.had(0), "e or the child");
      Edge.due(0b10, x.had(1), "b");
      Edge.due(1, x.had(2), "a");
    });
    Edge.edge(40, "as bits (0: nobody)", () -> {
      RimCoins x = Promises.of("rim 1;who a;who b;who c 1;coin 5 a b;");
      Edge.due(0, x.ways(0, 0, 5), "no WAYS");
      for (int i = 0; i < 5; i++) Edge.due(0, x.had(i), "had(" + i + ")");
      Edge.due(1, x.ways(0, 1, 1), "one");
      Edge.due(1, x.had(0), "had(0)");
      RimCoins y = Promises.of("rim 0;who a;coin 5 a;");
      for (int w = 1; w < 24; w++) y.born(0);
      Edge.due(22, y.ways(0, 1, 2), "over any but two");
      Edge.due(0xfffffc, y.had(0), "had(0)");
      Edge.due(1, y.had(1), "had(1)");
    });
    Edge.edge(40, "by the latest ways() that was not NONE, as bits (0: nobody); NONE: there is none such, or ahead of any", () -> {
      RimCoins x = Promises.of("rim 0;" + Promises.people(3) + "coin 5 a;");
      Edge.due(-1, x.had(0), "ahead of any");
      x.ways(0, 1, 6);
      x.ways(1, 1, 1);
      Edge.due(-1, x.had(0), "ahead of any that was not NONE");
      x.ways(0, 1, 5);
      Edge.due(0b101, x.had(0), "had(0)");
      Edge.due(1, x.had(4), "had(4)");
      Edge.due(-1, x.had(5), "had(5)");
      for (int i : Edge.NO_PLACES) Edge.due(-1, x.had(i), "had(" + i + ")");
      x.ways(0, 1, 0);
      x.ways(0, 9, 1);
      Edge.due(1, x.had(4), "NONE leaves it");
      x.ways(0, 1, 1);
      Edge.due(-1, x.had(1), "there is one alone");
      Promises.feed(x, "").valley();
      Edge.due(1, x.had(0), "another VALLEY leaves it");
    });
  }

  /** The plain model lives the same DAYS: all answers must be alike. */
  private static void live(String text, int births, int days, int seed) {
    RimCoins x = Promises.of(text);
    ValleyModel m = modelOf(text);
    for (int i = 0; i < births; i++) Edge.due(m.born(i & 3), x.born(i & 3), "born()");
    String what = "(" + days + ", " + seed + ") of " + text;
    Edge.due(m.trade(2, days, seed), x.trade(2, days, seed), "trade of 2 " + what);
    Edge.due(m.days(days, seed), x.days(days, seed), "days" + what);
    for (int i = 0; i < 3; i++) Edge.due(m.drawn(i), x.drawn(i), "drawn(" + i + ") of " + what);
    Edge.due(m.count(0), x.count(0), "WHOS behind " + what);
    for (int w = 0; w < m.count(0); w++) {
      Edge.due(m.who(w, 5), x.who(w, 5), "VALUES of " + w + " behind " + what);
      Edge.due(m.who(w, 0), x.who(w, 0), "VILLAGE of " + w + " behind " + what);
    }
    for (int c = 0; c < m.count(1); c++) {
      for (int i = 0; i < 3; i++) Edge.due(m.rim(c, i), x.rim(c, i), "rim(" + c + ", " + i + ") behind " + what);
    }
  }

  private static ValleyModel modelOf(String text) {
    ValleyModel m = new ValleyModel();
    for (int i = 0; i < text.length(); i += 20) {
      int[] n = new int[5];
      for (int k = 0; k < 20; k++) n[k / 4] = n[k / 4] << 8 | (i + k < text.length() ? text.charAt(i + k) : 0);
      m.feed(n[0], n[1], n[2], n[3], n[4]);
    }
    m.end(text.length());
    m.valley();
    return m;
  }

  private static void days() {
    Edge.edge(41, "x becomes x * 1103515245 + 12345 (an int, wrapping), the draw is (x >>> 8) % n", () -> {
      for (int seed : SEEDS) live("who a;who b;who c;coin 5 a;coin 6 b;coin 7 b;", 0, 30, seed);
      for (int seed = -20; seed < 20; seed++) {
        Edge.due(drawnByHand(seed), Promises.of("rim 0;who a;who b;coin 5 a;").trade(0, 1, seed), "a DAY by " + seed);
      }
    });
    Edge.edge(41, "and, if he who pays has COINS, of these (by numbers): it goes, if it GOES", () -> {
      int none = 0;
      for (int seed : SEEDS) {
        RimCoins x = Promises.of("who a;who b;coin 5 a;coin 6 a;coin 7 a b;");
        int went = x.days(1, seed);
        if (went == 0 && x.drawn(0) == 0) none++;
        live("who a;who b;coin 5 a;coin 6 a;coin 7 a b;", 0, 1, seed);
        live("who a;who b;who c;who d;coin 5 a;coin 6 d;", 3, 20, seed);
      }
      Edge.yes(none > 0 && none < SEEDS.length, "some of those who pay have no COINS");
    });
    Edge.edge(41, "a THEFT, if he is not DEAD and not its owner", () -> {
      int thefts = 0;
      for (int seed : SEEDS) {
        RimCoins x = Promises.of("who a;coin 5 a;");
        x.days(15, seed);
        if (x.drawn(1) == 0) Edge.due(0, x.drawn(2), "THEFTS by its owner alone");
        live("who a;who b 1;who c 2;coin 5 a;coin 6 b;", 21, 200, seed);
        RimCoins y = withTwentyTwoDead();
        y.days(400, seed);
        Edge.due(0, y.who(1, 4), "COINS of one DEAD");
        thefts += y.drawn(2);
      }
      Edge.due(0, thefts, "THEFTS by the DEAD");
    });
  }

  private static RimCoins withTwentyTwoDead() {
    RimCoins x = Promises.of("rim 0;who a;coin 5 a;");
    for (int w = 1; w < 24; w++) x.born(0);
    for (int w = 1; w < 24; w++) x.dies(w, 0);
    return x;
  }

  /** Of "rim 0;who a;who b;coin 5 a;": whether the payment of one DAY goes. */
  private static int drawnByHand(int seed) {
    long one = seed * 1103515245L + 12345 & 0xffffffffL;
    long two = one * 1103515245L + 12345 & 0xffffffffL;
    return (one >> 8) % 2 == 0 && (two >> 8) % 2 == 1 ? 1 : 0;
  }

  private static void dayBounds() {
    Edge.edge(41, "DRAWN DAYS (1 to 400): how many payments went; NONE: not as told, no WHOS, no COINS", () -> {
      String text = "who a;who b;coin 5 a;";
      RimCoins x = Promises.of(text);
      Edge.due(-1, x.days(0, 1), "days(0, 1)");
      Edge.due(-1, x.days(401, 1), "days(401, 1)");
      for (int n : new int[] {-1, -400, Integer.MAX_VALUE, Integer.MIN_VALUE}) Edge.due(-1, x.days(n, 1), "days(" + n + ", 1)");
      Edge.alike(x, Promises.of(text), "behind refused DAYS");
      Edge.yes(x.days(1, 1) >= 0, "days(1, 1)");
      Edge.yes(x.days(400, 1) >= 0, "days(400, 1)");
      Edge.due(-1, new RimCoins().days(1, 1), "no WHOS");
      Edge.due(-1, Promises.of("who a;who b;").days(1, 1), "no COINS");
      live("who a;who b;who c;coin 5 a;coin 6 b;coin 7 b;", 0, 400, 7);
      live("who a;who b;who c;coin 5 a;coin 6 b;coin 7 b;", 0, 1, 7);
    });
    Edge.edge(42, "0 payments that did not go (he had COINS, it did not GO), 1 BIRTHS, 2 THEFTS", () -> {
      RimCoins x = Promises.of("who a;coin 5 a;");
      for (int seed : SEEDS) {
        int went = x.days(1, seed);
        if (x.count(0) == 1) Edge.due(1, x.drawn(0) + went, "payments of one alone");
      }
      live("who a;who b;who c;coin 5 a;coin 6 b;coin 7 b;", 0, 300, 11);
    });
    Edge.edge(42, "Of the latest days() that was not NONE", () -> {
      RimCoins x = Promises.of("rim 0;who a;coin 5 a;");
      x.days(400, 3);
      int[] drawn = {x.drawn(0), x.drawn(1), x.drawn(2)};
      Edge.due(23, drawn[1], "BIRTHS till there are 24");
      x.days(0, 3);
      x.days(401, 3);
      x.trade(1, 100, 3);
      for (int i = 0; i < 3; i++) Edge.due(drawn[i], x.drawn(i), "drawn(" + i + ") behind NONE and trade()");
      Promises.feed(x, "").valley();
      x.days(5, 3);
      for (int i = 0; i < 3; i++) Edge.due(drawn[i], x.drawn(i), "drawn(" + i + ") behind another VALLEY");
      Promises.feed(x, "who a;coin 5 a;").valley();
      x.days(1, 0);
      Edge.yes(x.drawn(0) + x.drawn(1) + x.drawn(2) <= 3, "each time anew");
    });
    Edge.edge(42, "NONE: another what, or ahead of any", () -> {
      RimCoins x = Promises.of("who a;coin 5 a;");
      for (int i = 0; i < 3; i++) Edge.due(-1, x.drawn(i), "drawn(" + i + ") ahead of any");
      x.days(0, 1);
      x.trade(3, 1, 1);
      for (int i = 0; i < 3; i++) Edge.due(-1, x.drawn(i), "drawn(" + i + ") ahead of any that was not NONE");
      x.days(1, 1);
      for (int i = 0; i < 3; i++) Edge.yes(x.drawn(i) >= 0, "drawn(" + i + ")");
      Edge.due(-1, x.drawn(3), "drawn(3)");
      for (int i : Edge.NO_PLACES) Edge.due(-1, x.drawn(i), "drawn(" + i + ")");
    });
  }

  private static void births() {
    Edge.edge(41, "a BIRTH (if there are not 24) in the VILLAGE of him who pays", () -> {
      String text = "who a 1;who b 3;coin 5 a;coin 6 b;";
      for (int seed : SEEDS) {
        live(text, 22, 150, seed);
        live(text, 21, 150, seed);
        live(text, 0, 60, seed);
      }
      RimCoins x = Promises.of(text);
      for (int w = 2; w < 24; w++) x.born(0);
      x.days(400, 5);
      Edge.due(24, x.count(0), "WHOS");
      Edge.due(0, x.drawn(1), "BIRTHS with 24");
      RimCoins y = Promises.of(text);
      for (int w = 2; w < 23; w++) y.born(0);
      y.days(400, 5);
      Edge.due(24, y.count(0), "WHOS");
      Edge.due(1, y.drawn(1), "BIRTHS with 23");
      RimCoins z = Promises.of("who xx;coin 5 xx;");
      z.days(400, 5);
      Edge.due(23, z.drawn(1), "BIRTHS with one");
      for (char name = 'a'; name <= 'z'; name++) Edge.due(-6, Promises.feed(z, "held " + name).sentence(), "held " + name);
    });
  }

  private static void trade() {
    Edge.edge(43, "as DRAWN, but without the draws of 16", () -> {
      String text = "rim 0;who a;who b;coin 5 a;";
      for (int seed : SEEDS) {
        RimCoins y = Promises.of(text);
        int went = 0;
        int[] x = {seed};
        for (int day = 0; day < 100; day++) {
          int payer = drawn(x, 2);
          int payee = drawn(x, 2);
          if (y.coin(0, 1) != payer) continue;
          drawn(x, 1);
          if (payer != payee && y.pay(0, payee) == 0) went++;
        }
        Edge.due(went, Promises.of(text).trade(0, 100, seed), "100 DAYS by " + seed);
      }
    });
    Edge.edge(43, "n DAYS (1 to 400): how many payments go; NONE: not as told, no WHOS, no COINS. Nothing is changed.", () -> {
      String text = "rim 3;who a;who b;who c;coin 5 a b c b;coin 6 b c;";
      RimCoins x = Promises.of(text);
      ValleyModel m = modelOf(text);
      for (int r = 0; r < 4; r++) {
        Edge.due(-1, x.trade(r, 0, 1), "0 DAYS");
        Edge.due(-1, x.trade(r, 401, 1), "401 DAYS");
        Edge.due(m.trade(r, 1, 9), x.trade(r, 1, 9), "1 DAY by a rim of " + r);
        Edge.due(m.trade(r, 400, 9), x.trade(r, 400, 9), "400 DAYS by a rim of " + r);
      }
      Edge.due(-1, x.trade(4, 1, 1), "a rim of 4");
      for (int n : Edge.NO_PLACES) {
        Edge.due(-1, x.trade(n, 1, 1), "a rim of " + n);
        if (n < 1 || n > 400) Edge.due(-1, x.trade(1, n, 1), n + " DAYS");
      }
      Edge.alike(x, Promises.of(text), "behind trade()");
      Edge.due(0, Promises.of("who a;coin 5 a;").trade(1, 1, 1), "one WHO, one COIN");
      Edge.due(0, Promises.of("who a;coin 5 a;").days(1, 1), "one WHO, one COIN");
      Edge.due(-1, new RimCoins().trade(1, 1, 1), "no WHOS");
      Edge.due(-1, Promises.of("who a;who b;").trade(1, 1, 1), "no COINS");
    });
    Edge.edge(43, "in a valley like this one in which 'rim' is r (of rims what is more than that is rubbed off at first)", () -> {
      for (int rim = 0; rim < 4; rim++) {
        String text = "rim " + rim + ";who a;who b;who c;who d;coin 5 a" + " b c d".substring(0, 2 * rim) + ";coin 6 b" + " c a".substring(0, Math.min(2, rim) * 2) + ";";
        ValleyModel m = modelOf(text);
        RimCoins x = Promises.of(text);
        for (int r = 0; r < 4; r++) {
          for (int seed : SEEDS) Edge.due(m.trade(r, 40, seed), x.trade(r, 40, seed), "trade(" + r + ", 40, " + seed + ") of " + text);
        }
      }
      RimCoins full = Promises.of("who a;who b;coin 5 a b b b;");
      int went = 0;
      for (int seed : SEEDS) {
        Edge.due(0, full.trade(3, 40, seed), "its rim keeps it from b");
        went += full.trade(0, 40, seed);
      }
      Edge.yes(went > 0, "without a rim it goes");
    });
  }

  private static int drawn(int[] x, int n) {
    x[0] = x[0] * 1103515245 + 12345;
    return (x[0] >>> 8) % n;
  }

  private static void said() {
    Edge.edge(45, "how many (k NONE), or the k-th one's number. NONE: there is no SENTENCE, none such", () -> {
      RimCoins x = Promises.of("who a;who b;coin 9 b;" + Promises.many("coin 5 a;", 39));
      Edge.due(-1, x.said(-1), "there is no SENTENCE");
      Edge.due(-1, x.said(0), "there is no SENTENCE");
      Promises.feed(x, "held a").sentence();
      Edge.due(39, x.said(-1), "how many");
      Edge.due(1, x.said(0), "the first");
      Edge.due(39, x.said(38), "the last");
      Edge.due(-1, x.said(39), "said(39)");
      for (int k : new int[] {40, 63, 64, 100, -2, Integer.MAX_VALUE, Integer.MIN_VALUE}) Edge.due(-1, x.said(k), "said(" + k + ")");
      Promises.feed(x, "not held a and held a").sentence();
      Edge.due(0, x.said(-1), "of none");
      Edge.due(-1, x.said(0), "the first of none");
      Promises.feed(x, "held a or not held a").sentence();
      Edge.due(40, x.said(-1), "of all");
      Edge.due(39, x.said(39), "the last of all");
      Promises.feed(x, "who a;").valley();
      Edge.due(-1, x.said(-1), "behind a new VALLEY");
    });
    Edge.edge(45, "( 'value' | 'names' | 'place' ) SIGN NUMBER (names on its rim; its owner's VILLAGE)", () -> {
      String text = "who a;who b 3;coin 1 a;coin 99 b a a a;coin 50 a b;";
      String[] asked = {"value<1", "value=1", "value<2", "value>98", "value>99", "value=99", "value<99", "value<100", "names=0", "names<1", "names>2",
        "names=3", "names>3", "place=0", "place=3", "place>3", "place<3", "value<999", "value>000", "names<0"};
      int[] bits = {0, 1, 1, 2, 0, 2, 5, 7, 1, 1, 2, 2, 0, 5, 2, 0, 5, 7, 7, 0};
      for (int i = 0; i < asked.length; i++) {
        told(Promises.of(text), bits[i], asked[i]);
      }
    });
    Edge.edge(45, "'held' WHO (its owner) | 'bears' WHO (on its rim) | 'goes' WHO (it GOES to him)", () -> {
      RimCoins x = Promises.of("who a;who b;who c 1;coin 5 a;coin 5 b a;coin 5 b c c a;coin 5 c;coin 5 a b a c;");
      String[] asked = {"held a", "held b", "held c", "bears a", "bears b", "bears c", "goes a", "goes b", "goes c", "stuck", "not stuck", "forged"};
      int[] bits = {0b10001, 0b00110, 0b01000, 0b10110, 0b10000, 0b10100, 0, 0b00001, 0, 0b11110, 0b00001, 0b10100};
      for (int i = 0; i < asked.length; i++) told(x, bits[i], asked[i]);
      x.born(0);
      told(x, 0b01000, "stuck");
    });
    Edge.edge(45, "20 ONES, 8 within one another (the innermost counts, too)", () -> {
      RimCoins x = Promises.of("who a;who b;coin 5 a;coin 6 b;coin 7 a;");
      told(x, 0b101, Promises.many("forged or ", 19) + "held a");
      told(x, 0b010, "held b" + Promises.many(" or forged", 19));
      told(x, 0b010, "held b" + Promises.many(" and place=0", 15));
      told(x, 0b101, "not not not not not not not held b");
      told(x, 0b101, "not(not(held a and not(forged or(held b))))");
      told(x, 0b101, "(((((((held a)))))))and(((((((held a)))))))");
    });
    Edge.edge(45, "COND: ALL { 'or' ALL }. ALL: ONE { 'and' ONE }", () -> {
      RimCoins x = Promises.of("who a;who b;coin 5 a;coin 6 b;coin 7 a;");
      told(x, 0b011, "held b or held a and value<6");
      told(x, 0b011, "value<6 and held a or held b");
      told(x, 0b001, "(held b or held a)and value<6");
      told(x, 0b100, "not held b and value>5");
      told(x, 0b101, "not(held b and value>5)");
    });
    Edge.edge(45, "'forged' (any bit)", () -> {
      RimCoins x = Promises.of("who a;who b;who c 1;coin 5 a;coin 5 a b b;coin 5 a a;coin 5 a c;coin 5 a b;");
      Promises.feed(x, "forged").sentence();
      int[] due = {1, 2, 3, -1};
      for (int k = 0; k < 4; k++) Edge.due(due[k], x.said(k), "said(" + k + ")");
    });
  }

  private static void told(RimCoins x, int bits, String text) {
    Edge.yes(Promises.feed(x, text).sentence() > 0, "sentence() of '" + text + "'");
    int got = 0;
    for (int k = 0; k < x.said(-1); k++) got |= 1 << x.said(k);
    Edge.due(bits, got, "said of '" + text + "'");
  }

  private static void images() {
    Edge.edge(46, "are kept in place k (0, 1): true; false: no such one", () -> {
      RimCoins x = Promises.of("who a;coin 5 a;");
      Edge.yes(x.image(0), "image(0)");
      x.born(1);
      Edge.yes(x.image(1), "image(1)");
      Edge.no(x.image(2), "image(2)");
      for (int k : Edge.NO_PLACES) Edge.no(x.image(k), "image(" + k + ")");
      x.born(2);
      Edge.yes(x.restore(0), "restore(0)");
      Edge.due(1, x.count(0), "WHOS in 0");
      Edge.yes(x.restore(1), "restore(1)");
      Edge.due(2, x.count(0), "WHOS in 1");
      Edge.yes(x.image(0), "image(0) once more");
      x.born(0);
      x.restore(0);
      Edge.due(2, x.count(0), "WHOS in 0");
    });
    Edge.edge(47, "true; false: no such one, or nothing is kept there", () -> {
      RimCoins x = Promises.of("who a;");
      for (int k : new int[] {0, 1, 2, 32, 33}) Edge.no(x.restore(k), "restore(" + k + ") ahead of any");
      for (int k : Edge.NO_PLACES) Edge.no(x.restore(k), "restore(" + k + ") ahead of any");
      x.image(1);
      x.born(0);
      Edge.no(x.restore(0), "nothing is kept in 0");
      for (int k : new int[] {2, 32, 33, 64, 65}) Edge.no(x.restore(k), "restore(" + k + ")");
      for (int k : Edge.NO_PLACES) Edge.no(x.restore(k), "restore(" + k + ")");
      Edge.due(2, x.count(0), "refused calls change nothing");
      Edge.yes(x.restore(1), "restore(1)");
      Edge.due(1, x.count(0), "WHOS");
      Edge.yes(x.restore(1), "restore(1) once more");
      RimCoins y = new RimCoins();
      Edge.yes(y.image(0), "image(0) of an empty VALLEY");
      Promises.feed(y, "who a;").valley();
      Edge.yes(y.restore(0), "restore(0)");
      Edge.alike(y, new RimCoins(), "an empty VALLEY");
    });
    Edge.edge(47, "They are as kept in place k (the tape, and what other calls told last, stays)", () -> {
      String text = "rim 2;who a;who b;who c;who d;coin 9 a;coin 5 b;coin 5 a;owes a b 5;stranger b;fee 4;dead heirs;road 1 2;";
      RimCoins x = Promises.of(text), y = Promises.of(text);
      for (RimCoins z : new RimCoins[] {x, y}) {
        z.wed(2, 3);
        z.change(0, 1);
        Promises.feed(z, "held b").sentence();
      }
      x.image(0);
      x.exact(0, 1, 5);
      x.hands(2, 1);
      Promises.orders(x, 0);
      x.ways(0, 0, 1);
      x.clear(0);
      x.dies(2, 0);
      x.born(3);
      x.road(0, 1);
      x.days(20, 1);
      int refused = x.drawn(0);
      Promises.feed(x, "held a or").sentence();
      Promises.feed(x, "names=0").sentence();
      Promises.feed(x, "fee 0;").valley();
      x.feed(1, 2, 3, 4, 5);
      Edge.yes(x.restore(0), "restore(0)");
      Edge.alike(x, y, "as kept");
      Edge.due(20, x.count(8), "the tape stays");
      Edge.due(2, x.fault(), "fault() stays");
      Edge.due(1, x.given(2), "given() stays");
      Edge.due(1, x.handAt(0), "handAt() stays");
      Edge.due(0, x.orderAt(0), "orderAt() stays");
      Edge.due(0b10, x.had(0), "had() stays");
      Edge.due(refused, x.drawn(0), "drawn() stays");
      Promises.feed(x, "").valley();
      x.restore(0);
      Edge.alike(x, y, "as kept, behind another VALLEY");
    });
  }

  private static void counts() {
    Edge.edge(48, "NONE for another what", () -> {
      RimCoins x = Promises.of("who a;");
      Edge.due(-1, x.count(9), "count(9)");
      for (int what : Edge.NO_PLACES) Edge.due(-1, x.count(what), "count(" + what + ")");
      Edge.due(0, x.count(8), "count(8)");
    });
    Edge.edge(48, "6 roads, 7 strangers, 8 bytes of the tape", () -> {
      RimCoins x = Promises.of("who a;who b;stranger a;road 0 1;");
      for (int[] r : new int[][] {{0, 1}, {2, 2}, {2, 0}, {3, 0}, {1, 2}, {3, 1}, {2, 3}}) x.road(r[0], r[1]);
      Edge.due(6, x.count(6), "all roads");
      x.dies(0, 1);
      Edge.due(1, x.count(7), "a stranger who is DEAD");
      for (int i = 0; i < 48; i++) x.feed(0, 0, 0, 0, 0);
      Edge.due(940, x.count(8), "a full tape");
    });
    Edge.edge(48, "An object is used for at most 512 calls after it has been made", () -> {
      RimCoins x = Promises.of(Promises.people(5) + "coin 5 a;");
      // feed 2, end, valley; each payment and asking is one more
      int calls = 4;
      int w = 0;
      while (calls < 510) {
        w = (w + 1) % 5;
        Edge.due(0, x.pay(0, w), "pay(0, " + w + "), call " + ++calls);
        Edge.due(w, x.coin(0, 1), "its owner, call " + ++calls);
      }
      Edge.due(0, x.pay(0, (w + 1) % 5), "call 511");
      Edge.due((w + 1) % 5, x.coin(0, 1), "call 512");
    });
  }
}
