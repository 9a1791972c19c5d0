/** Boundaries of the tape and of both texts: promises 2 to 5 and 44. */
final class EdgesOfTexts {
  private static final String[] OWN_WORDS = ("rim who road coin owes stranger fee dead rubbed stays heirs "
      + "or and not held bears goes stuck forged value names place").split(" ");

  private EdgesOfTexts() { }

  static void all() {
    tape();
    tokens();
    lines();
    numbers();
    faults();
    ends();
    kinds();
    readings();
    sentences();
    sentenceFaults();
  }

  private static RimCoins blankTape(int feeds) {
    RimCoins x = new RimCoins();
    for (int i = 1; i <= feeds; i++) {
      Edge.due(20 * i, x.feed(0x20202020, 0x20202020, 0x20202020, 0x20202020, 0x20202020), "feed " + i);
    }
    return x;
  }

  private static void tape() {
    Edge.edge(2, "Twenty bytes come behind the tape, of each number the highest first", () -> {
      RimCoins x = new RimCoins();
      Edge.due(20, x.feed(0x77686f20, 0x613b7768, 0x6f20623b, 0x77686f20, 0x633b0a77), "feed");
      Edge.due(40, x.feed(0x686f2064, 0x20333b20, 0x20202020, 0x20202020, 0x20202020), "feed behind it");
      Edge.due(4, x.valley(), "who a;who b;who c; who d 3;");
      Edge.due(3, x.who(3, 0), "who(3, 0)");
      x.feed(0x20202020, 0x202020ff, -1, Integer.MIN_VALUE, Integer.MAX_VALUE);
      Edge.due(-1 - 7, x.valley(), "valley() of 255 at 7");
      x.feed(0x20202020, 0xf0202020, 0, 0, 0);
      Edge.due(-1 - 4, x.valley(), "valley() of 240 at 4");
    });
    Edge.edge(2, "NONE, and none come, if it would have more than 940", () -> {
      RimCoins x = blankTape(47);
      Edge.due(940, x.count(8), "bytes");
      Edge.due(-1, x.feed(1, 2, 3, 4, 5), "feed of a full tape");
      Edge.due(940, x.count(8), "bytes of a full tape");
      Edge.yes(x.end(921), "end(921)");
      Edge.due(-1, x.feed(1, 2, 3, 4, 5), "feed at 921");
      Edge.due(921, x.count(8), "bytes behind the refused feed");
      Edge.no(x.end(922), "end(922)");
      Edge.yes(x.end(20), "end(20)");
      Edge.due(0, x.valley(), "only blanks have come");
      RimCoins y = blankTape(47);
      y.end(920);
      Edge.due(940, y.feed(0, 0, 0, 0, 0), "feed at 920");
    });
    Edge.edge(3, "The tape has its first n bytes alone: true", () -> {
      RimCoins x = new RimCoins();
      Edge.yes(x.end(0), "end(0) of an empty tape");
      Promises.feed(x, "who a;who b;who c;zz");
      Edge.yes(x.end(20), "end of all");
      Edge.due(20, x.count(8), "bytes");
      Edge.yes(x.end(12), "end(12)");
      Edge.due(12, x.count(8), "bytes");
      Edge.due(2, x.valley(), "valley() of 12 bytes");
    });
    Edge.edge(3, "false, if it has not so many, or n is below 0", () -> {
      RimCoins x = new RimCoins();
      Edge.no(x.end(1), "end(1) of an empty tape");
      Edge.no(x.end(-1), "end(-1) of an empty tape");
      Promises.feed(x, "who a;who b;who c;  ");
      for (int n : new int[] {21, 940, 941, Integer.MAX_VALUE, -1, -20, Integer.MIN_VALUE}) Edge.no(x.end(n), "end(" + n + ")");
      Edge.due(20, x.count(8), "bytes behind refused calls");
      Edge.yes(x.end(6), "end(6)");
      Edge.no(x.end(7), "what is cut off is gone");
      Edge.due(1, x.valley(), "valley() of 6 bytes");
    });
  }

  private static void tokens() {
    Edge.edge(4, "with blanks (32, 10) between them or not", () -> {
      Edge.good(3, " \nwho\na 1\n;\n who b;road 0\n1 ;\n ");
      Edge.good(2, "who a;who b;");
      int[] others = {0, 1, 9, 11, 12, 13, 31, 33, 127, 128 + 10, 128 + 32, 255};
      for (int sign : others) Edge.fault(1, 3, "who" + (char) sign + "a;");
      Edge.says(4, "not(\nstuck )and\nstuck");
      for (int sign : others) Edge.unsaid(1, 5, "stuck" + (char) sign + "or stuck");
    });
    Edge.edge(4, "WORDS: small letters, 1 to 8", () -> {
      Edge.good(4, "who a;who z;who azazazaz;who abcdefgh;");
      Edge.fault(1, 4, "who abcdefghi;");
      Edge.fault(1, 4, "who abcdefghijklmnopqrstuvwxyz;");
      Edge.fault(1, 0, "aaaaaaaaaaaaawho a;");
      for (char sign : new char[] {'A', 'Z', '@', '[', '`', '{', '_', 'a' + 128}) Edge.fault(1, 4, "who " + sign + ";");
      Edge.fault(1, 0, "Who a;");
    });
    Edge.edge(4, "NUMBERS: 1 to 3 digits", () -> {
      Edge.due(9, Edge.good(1, "fee 9;").count(4), "fee 9");
      Edge.due(9, Edge.good(1, "fee 09;").count(4), "fee 09");
      Edge.due(90, Edge.good(1, "fee 090;").count(4), "fee 090");
      Edge.fault(1, 4, "fee 0009;");
      Edge.fault(1, 4, "fee 4294967305;");
      Edge.fault(1, 4, "fee ;");
      for (char sign : new char[] {'/', ':', '-', '+', '0' + 128}) Edge.fault(1, 4, "fee " + sign + "5;");
    });
    Edge.edge(4, "A WORD, NUMBER goes on as long as small letters and digits do; what is not as told is no TOKEN", () -> {
      Edge.fault(1, 4, "fee 9a;");
      Edge.fault(1, 4, "fee 099a;");
      Edge.fault(1, 4, "who a9;");
      Edge.fault(1, 0, "fee9;");
      Edge.fault(1, 5, "road 0x1;");
      Edge.fault(1, 7, "road 01;");
      Edge.fault(1, 0, "whoa;");
      Edge.fault(1, 5, "fee 9A;");
      Edge.fault(1, 5, "who aB;");
      Edge.unsaid(1, 0, "stuck2");
      Edge.unsaid(1, 6, "value=5a");
    });
    Edge.edge(4, "; < = > ( ) .", () -> {
      for (char sign : "<=>().:?/*'!,".toCharArray()) Edge.fault(1, 5, "who a" + sign);
      for (char sign : "<=>".toCharArray()) Edge.says(1, "value" + sign + "5");
      for (char sign : ":?;()./".toCharArray()) Edge.unsaid(1, 5, "value" + sign + "5");
      for (char sign : "*'[{".toCharArray()) Edge.unsaid(1, 0, sign + "stuck)");
      for (char sign : "*+]}".toCharArray()) Edge.unsaid(1, 6, "(stuck" + sign);
    });
    Edge.edge(4, "A VALLEY is a text of at most 900 bytes", () -> {
      Edge.good(1, "who a;" + Edge.blanks(894));
      Edge.good(2, "who a;" + Edge.blanks(888) + "who b;");
      Edge.good(0, Promises.many("\n", 900));
      Edge.fault(1, 900, "who a;" + Edge.blanks(895));
      Edge.fault(1, 900, "who a;" + Edge.blanks(889) + "who b;");
      Edge.fault(1, 900, "who a;" + Edge.blanks(934));
    });
  }

  private static void lines() {
    Edge.edge(4, "'rim' N (0 to 3; once, ahead of all coins; 3 without)", () -> {
      for (int r = 0; r < 4; r++) {
        String names = Promises.many(" a", r);
        Edge.due(r, Edge.good(3, "who a;rim " + r + ";coin 5 a" + names + ";").count(3), "'rim'");
      }
      Edge.fault(2, 4, "rim 4;");
      Edge.fault(2, 4, "rim 999;");
      Edge.fault(3, 6, "rim 2;rim 2;");
      Edge.fault(3, 15, "who a;coin 5 a;rim 3;");
      Edge.due(3, Edge.good(2, "who a;coin 5 a a a a;").count(3), "'rim' without a LINE");
    });
    Edge.edge(4, "'who' NAME [ VILLAGE ] (0 to 3; 0 without)", () -> {
      RimCoins x = Edge.good(5, "who a;who b 0;who c 1;who d 2;who e 3;");
      int[] villages = {0, 0, 1, 2, 3};
      for (int w = 0; w < 5; w++) Edge.due(villages[w], x.who(w, 0), "VILLAGE of " + w);
      Edge.fault(2, 6, "who a 4;");
      Edge.fault(2, 6, "who a 999;");
      Edge.fault(1, 8, "who a 0 0;");
    });
    Edge.edge(4, "'road' VILLAGE VILLAGE (unlike ones; each two once, in whatever order)", () -> {
      for (int v = 0; v < 4; v++) Edge.fault(3, 7, "road " + v + " " + v + ";");
      Edge.fault(3, 16, "road 0 1;road 0 1;");
      Edge.fault(3, 16, "road 0 1;road 1 0;");
      Edge.fault(3, 16, "road 3 2;road 2 3;");
      Edge.due(6, Edge.good(6, "road 0 1;road 0 2;road 3 0;road 1 2;road 1 3;road 3 2;").count(6), "roads");
      Edge.fault(2, 5, "road 4 0;");
      Edge.fault(2, 7, "road 0 4;");
    });
    Edge.edge(4, "(1 to 99; its owner, then the names on its rim, the latest first, no more than 'rim' tells)", () -> {
      RimCoins x = Edge.good(6, "who a;who b;who c;who d;coin 1 a;coin 99 a d b c;");
      Edge.due(1, x.coin(0, 0), "VALUE");
      Edge.due(0, x.coin(0, 2), "names");
      Edge.due(99, x.coin(1, 0), "VALUE");
      Edge.due(0, x.coin(1, 1), "owner");
      int[] names = {3, 1, 2};
      for (int i = 0; i < 3; i++) Edge.due(names[i], x.rim(1, i), "name " + i);
      Edge.fault(2, 11, "who a;coin 0 a;");
      Edge.fault(2, 11, "who a;coin 100 a;");
      Edge.fault(1, 12, "who a;coin 5;");
      for (int r = 0; r < 4; r++) {
        Edge.good(3, "rim " + r + ";who a;coin 5 a" + Promises.many(" a", r) + ";");
        Edge.fault(4, 21 + 2 * r, "rim " + r + ";who a;coin 5 a" + Promises.many(" a", r + 1) + ";");
      }
    });
    Edge.edge(4, "'owes' WHO WHO N (unlike ones; 1 to 999)", () -> {
      RimCoins x = Edge.good(4, "who a;who b;owes a b 1;owes b a 999;");
      Edge.due(1, x.debt(0, 2), "the least");
      Edge.due(999, x.debt(1, 2), "the most");
      Edge.fault(3, 19, "who a;who b;owes a a 1;");
      Edge.fault(3, 19, "who a;who b;owes b b 1;");
      Edge.fault(2, 21, "who a;who b;owes a b 0;");
      Edge.fault(1, 21, "who a;who b;owes a b 1000;");
      Edge.good(4, "who a;who b;owes a b 1;owes a b 1;");
    });
    Edge.edge(4, "'stranger' WHO (each once)", () -> {
      Edge.due(2, Edge.good(4, "who a;who b;stranger b;stranger a;").count(7), "strangers");
      Edge.fault(3, 26, "who a;stranger a;stranger a;");
      Edge.due(16, Edge.good(32, Promises.people(16) + allStrangers()).count(7), "strangers");
    });
    Edge.edge(4, "'fee' N (1 to 99; once; 8 without)", () -> {
      Edge.due(1, Edge.good(1, "fee 1;").count(4), "'fee'");
      Edge.due(99, Edge.good(1, "fee 99;").count(4), "'fee'");
      Edge.due(8, Edge.good(1, "rim 0;").count(4), "'fee' without a LINE");
      Edge.fault(2, 4, "fee 0;");
      Edge.fault(2, 4, "fee 100;");
      Edge.fault(3, 6, "fee 9;fee 9;");
    });
    Edge.edge(4, "'dead' ( 'rubbed' | 'stays' | 'heirs' ) (once; 'stays' without)", () -> {
      String[] laws = {"rubbed", "stays", "heirs"};
      for (int law = 0; law < 3; law++) Edge.due(law, Edge.good(1, "dead " + laws[law] + ";").count(5), laws[law]);
      Edge.due(1, Edge.good(1, "fee 9;").count(5), "the law without a LINE");
      Edge.fault(3, 11, "dead stays;dead stays;");
      Edge.fault(1, 5, "dead stay;");
      Edge.fault(1, 5, "dead dead;");
      Edge.fault(1, 12, "dead rubbed stays;");
    });
  }

  private static String allStrangers() {
    StringBuilder sb = new StringBuilder();
    for (int i = 0; i < 16; i++) sb.append("stranger ").append((char) ('a' + i)).append(';');
    return sb.toString();
  }

  private static String coins(int n) {
    StringBuilder sb = new StringBuilder();
    for (int i = 1; i <= n; i++) sb.append("coin ").append(i).append(" a;");
    return sb.toString();
  }

  private static String debts(int n) {
    StringBuilder sb = new StringBuilder();
    for (int i = 1; i <= n; i++) sb.append("owes a b ").append(i).append(';');
    return sb.toString();
  }

  private static void numbers() {
    Edge.edge(4, "NAME: a WORD, none of those told here or in a SENTENCE; told once", () -> {
      for (String word : OWN_WORDS) {
        Edge.fault(1, 4, "who " + word + ";");
        Edge.good(1, "who " + word.substring(1) + ";");
        Edge.good(1, "who " + word.substring(0, word.length() - 1) + ";");
        if (word.length() < 8) Edge.good(1, "who " + word + "x;");
      }
      Edge.fault(3, 10, "who a;who a;");
      Edge.fault(3, 17, "who abcdefgh;who abcdefgh;");
      Edge.fault(3, 12, "who a 1;who a 2;");
      Edge.good(4, "who a;who aa;who abcdefgh;who abcdefgi;");
    });
    Edge.edge(4, "16 WHOS, 40 COINS, 12 DEBTS at most, numbered from 0, each sort", () -> {
      RimCoins x = Edge.good(68, Promises.people(16) + coins(40) + debts(12));
      int[] most = {16, 40, 12};
      for (int sort = 0; sort < 3; sort++) Edge.due(most[sort], x.count(sort), "count(" + sort + ")");
      Edge.due(1, x.coin(0, 0), "the first COIN");
      Edge.due(40, x.coin(39, 0), "the last COIN");
      Edge.due(1, x.debt(0, 2), "the first DEBT");
      Edge.due(12, x.debt(11, 2), "the last DEBT");
      Edge.due(40, x.who(0, 4), "COINS of the first WHO");
      Edge.due(0, x.who(15, 4), "COINS of the last WHO");
      Edge.none(() -> x.who(16, 0), "who(16, 0)");
      Edge.none(() -> x.coin(40, 0), "coin(40, 0)");
      Edge.none(() -> x.debt(12, 0), "debt(12, 0)");
    });
    Edge.edge(5, "a NUMBER that is not as told (at it)", () -> {
      Edge.fault(2, 4, "rim 4;");
      Edge.fault(2, 5, "rim\n\n999;");
      Edge.fault(2, 6, "who a 4;");
      Edge.fault(2, 5, "road 4 0;");
      Edge.fault(2, 7, "road 0 4;");
      Edge.fault(2, 11, "who a;coin 0 a;");
      Edge.fault(2, 11, "who a;coin 100 a;");
      Edge.fault(2, 21, "who a;who b;owes a b 000;");
      Edge.fault(2, 4, "fee 000;");
      Edge.fault(2, 4, "fee 100;");
    });
    Edge.edge(5, "a NAME told twice, not told", () -> {
      Edge.fault(3, 10, "who a;who a;");
      Edge.fault(3, 7, "coin 5 b;");
      Edge.fault(3, 15, "who a;coin 5 a b;");
      Edge.fault(3, 5, "owes a b 5;");
      Edge.fault(3, 13, "who a;owes a b 5;");
      Edge.fault(3, 9, "stranger a;");
      Edge.fault(3, 9, "stranger a;who a;");
      Edge.fault(3, 16, "who ab;stranger a;");
    });
    Edge.edge(5, "two that are like, a road told again (at the second)", () -> {
      Edge.fault(3, 7, "road 2 2;");
      Edge.fault(3, 13, "who a;owes a a 5;");
      Edge.fault(3, 16, "road 1 2;road 2 1;");
      Edge.fault(3, 25, "road 1 2;road 0 3;road 1 2;");
    });
    Edge.edge(5, "a stranger told again (at him)", () -> {
      Edge.fault(3, 26, "who a;stranger a;stranger a;");
      Edge.fault(3, 43, "who a;who b;stranger b;stranger a;stranger b;");
    });
    Edge.edge(5, "rim, fee, dead told again, rim behind a coin (at its WORD)", () -> {
      Edge.fault(3, 6, "rim 2;rim 3;");
      Edge.fault(3, 6, "rim 2;rim 9;");
      Edge.fault(3, 6, "fee 2;fee 3;");
      Edge.fault(3, 11, "dead stays;dead heirs;");
      Edge.fault(3, 15, "who a;coin 5 a;rim 2;");
      Edge.fault(3, 15, "who a;coin 5 a;rim;");
      Edge.good(4, "who a;coin 5 a;fee 2;dead heirs;");
    });
  }

  private static void faults() {
    Edge.edge(5, "the first along the text, of one TOKEN the least", () -> {
      Edge.fault(2, 4, "fee 0;fee 0;who;");
      Edge.fault(3, 6, "fee 5;fee 0;");
      Edge.fault(2, 5, "road 4 4;");
      Edge.fault(2, 5, "road 9 a;");
      Edge.fault(3, 13, "who a;owes a a 0;");
      Edge.fault(4, 96, Promises.people(16) + "who a;");
      Edge.fault(4, 96, Promises.people(16) + "who 5;");
      Edge.fault(3, 21, "who a;coin 5 a a a a b;");
      Edge.fault(1, 21, "who a;coin 5 a a a a or;");
      Edge.fault(1, 13, "who a;coin 5 or;");
      Edge.fault(1, 21, "who a;coin 5 a a a a 5;");
      Edge.fault(1, 21, "who a;coin 5 a a a a !;");
    });
    Edge.edge(5, "1 no TOKEN, or one that can't come (at it", () -> {
      for (String text : new String[] {"!", "5", ";", "a;", "held a;", "rubbed;", "(", "1234", "abcdefghi a;"}) Edge.fault(1, 0, text);
      for (String text : new String[] {"who;", "fee;", "rim;"}) Edge.fault(1, 3, text);
      for (String text : new String[] {"who 5;", "who !", "fee a;", "rim who;", "fee 1000;"}) Edge.fault(1, 4, text);
      for (String text : new String[] {"road a 1;", "dead 5;", "coin a a;", "dead held;", "owes 5 5 5;", "coin !;"}) Edge.fault(1, 5, text);
      Edge.fault(1, 5, "who a");
      Edge.fault(1, 6, "who a who b;");
      Edge.fault(1, 6, "rim 1 1;");
      Edge.fault(1, 6, "road 1;");
      Edge.fault(1, 7, "road 1 a;");
      Edge.fault(1, 9, "road 0 1 2;");
      Edge.fault(1, 9, "stranger 5;");
      Edge.fault(1, 13, "who a;coin 5 5;");
      Edge.fault(1, 15, "who a;coin 5 a 5;");
      Edge.fault(1, 13, "who a;owes a 5;");
      Edge.fault(1, 21, "who a;who b;owes a b a;");
      Edge.fault(1, 23, "who a;who b;owes a b 5 5;");
      Edge.fault(1, 17, "who a;stranger a a;");
      Edge.fault(1, 6, "who a;;");
    });
  }

  private static void ends() {
    Edge.edge(5, "the end: how many bytes there are", () -> {
      for (String text : new String[] {"who", "who ", "who a", "who a \n\n", "who a 1", "rim", "rim 2", "fee", "fee 2 ", "dead", "dead stays",
        "road", "road 0", "road 0 1", "who a;coin", "who a;coin 5", "who a;coin 5 a", "who a;coin 5 a a", "who a;stranger", "who a;stranger a\n",
        "who a;who b;owes", "who a;who b;owes a", "who a;who b;owes a b", "who a;who b;owes a b 5", "who" + Edge.blanks(897)}) {
        Edge.fault(1, text.length(), text);
      }
    });
    Edge.edge(5, "900, if there are more and no FAULT is ahead", () -> {
      Edge.fault(1, 900, "who" + Edge.blanks(898));
      Edge.fault(1, 900, Edge.blanks(901));
      Edge.fault(1, 900, Edge.blanks(940));
      Edge.fault(1, 900, "who a;" + Edge.blanks(894) + "who b;");
      Edge.fault(1, 900, Edge.blanks(900) + "!");
      Edge.fault(1, 899, Edge.blanks(899) + "!!");
      Edge.fault(1, 900, Edge.blanks(896) + "fee 0;");
      Edge.fault(2, 899, Edge.blanks(895) + "fee 0;");
      Edge.fault(2, 4, "fee 0;" + Edge.blanks(930));
      Edge.fault(3, 899, "who a;" + Edge.blanks(889) + "who a;");
    });
    Edge.edge(5, "TOKENS that begin ahead of it are read whole", () -> {
      String named = "who abcdefgh;" + Edge.blanks(879);
      Edge.fault(1, 900, named + "coin 5 abcdefgh;");
      Edge.fault(1, 899, named + "coin 5 abcdefghi;");
      Edge.fault(3, 899, named + "coin 5 abcdefg;");
      Edge.fault(2, 899, Edge.blanks(895) + "fee 100;");
      Edge.fault(1, 899, Edge.blanks(895) + "fee 1000;");
      Edge.fault(1, 900, Edge.blanks(895) + "fee 099;");
      Edge.fault(1, 900, Edge.blanks(894) + "dead stays;");
      Edge.fault(1, 900, Edge.blanks(899) + "fee 0;");
      Edge.fault(1, 899, Edge.blanks(899) + "feet 0;");
    });
  }

  private static void kinds() {
    Edge.edge(5, "4 a 17th WHO, a 41st COIN, a 13th DEBT (at the LINE's first WORD)", () -> {
      String most = Promises.people(16) + coins(40) + debts(12);
      Edge.fault(4, most.length(), most + "who q;");
      Edge.fault(4, most.length(), most + "who");
      Edge.fault(4, most.length(), most + "coin 5 a;");
      Edge.fault(4, most.length() + 1, most + "\ncoin 0");
      Edge.fault(4, most.length(), most + "owes a b 5;");
      Edge.fault(4, most.length(), most + "owes");
      Edge.good(70, most + "fee 5;stranger a;");
    });
    Edge.edge(5, "a name more than a rim has (at it)", () -> {
      for (int r = 0; r < 4; r++) Edge.fault(4, 21 + 2 * r, "rim " + r + ";who a;coin 5 a" + Promises.many(" a", r + 1) + " zz");
      Edge.fault(4, 21, "who a;coin 5 a a a a a;");
    });
    Edge.edge(5, "The kind of the FAULT of the latest valley() or sentence(); 0 without one and ahead of any", () -> {
      RimCoins x = new RimCoins();
      Edge.due(0, x.fault(), "fault() ahead of any");
      Promises.feed(x, "fee 0;").valley();
      Edge.due(2, x.fault(), "fault() of a VALLEY");
      Promises.feed(x, "stuck").sentence();
      Edge.due(0, x.fault(), "fault() of a good SENTENCE");
      Promises.feed(x, "held a").sentence();
      Edge.due(3, x.fault(), "fault() of a SENTENCE");
      Promises.feed(x, "zz").orders();
      Edge.due(3, x.fault(), "fault() behind orders()");
      Promises.feed(x, "who a;").valley();
      Edge.due(0, x.fault(), "fault() of a good VALLEY");
      Promises.feed(x, "who a").valley();
      Edge.due(1, x.fault(), "fault() of a VALLEY");
      Promises.feed(x, Promises.people(16) + "who").valley();
      Edge.due(4, x.fault(), "fault() of a VALLEY");
    });
  }

  private static RimCoins lived() {
    RimCoins x = Promises.of("rim 2;who a;who b 1;who c;who d 2;who e;coin 9 a;coin 8 c d;coin 5 d;owes a c 9;owes d e 5;stranger e;coin 2 e;fee 3;"
        + "dead heirs;road 1 2;");
    x.wed(0, 1);
    x.change(1, 3);
    x.clear(0);
    x.dies(3, 2);
    x.road(0, 3);
    x.born(3);
    Promises.feed(x, "held c").sentence();
    x.opens();
    x.trade(1, 5, 5);
    return x;
  }

  private static void readings() {
    Edge.edge(4, "The tape (empty then, here and below, whatever is answered)", () -> {
      RimCoins x = new RimCoins();
      Promises.feed(x, "who a;who b;owes a b 5;").valley();
      Edge.due(0, x.count(8), "bytes behind valley()");
      Promises.feed(x, "who").valley();
      Edge.due(0, x.count(8), "bytes behind a FAULT of valley()");
      Promises.feed(x, "stuck").sentence();
      Edge.due(0, x.count(8), "bytes behind sentence()");
      Promises.feed(x, "stuck!").sentence();
      Edge.due(0, x.count(8), "bytes behind a FAULT of sentence()");
      Edge.due(0, Promises.orders(x, 0), "orders()");
      Edge.due(0, x.count(8), "bytes behind orders()");
      Edge.due(-1, Promises.orders(x, 0, 0), "orders() of like ones");
      Edge.due(0, x.count(8), "bytes behind orders() of NONE");
    });
    Edge.edge(4, "is the VALLEY now: how many LINES", () -> {
      Edge.good(0, "");
      Edge.good(0, " \n");
      RimCoins x = lived();
      Edge.due(0, x.valley(), "valley() of an empty tape");
      Edge.alike(x, new RimCoins(), "an empty VALLEY");
      Edge.good(12, "rim 0;who a;who b;road 0 1;coin 1 a;owes a b 1;stranger a;fee 1;dead stays;road 0 2;coin 1 b;stranger b;");
    });
    Edge.edge(4, "-1 less the place of a FAULT: the VALLEY before stays", () -> {
      RimCoins x = lived();
      Edge.due(-1, Promises.feed(x, ";").valley(), "a FAULT at 0");
      Edge.due(-7, Promises.feed(x, "who a;!").valley(), "a FAULT at 6");
      Edge.due(-39, Promises.feed(x, "rim 0;who z 3;coin 7 z;fee 9;road 0 1;zz").valley(), "a FAULT at 38");
      Edge.due(-901, Promises.feed(x, "who a;" + Edge.blanks(900)).valley(), "a FAULT at 900");
      Edge.alike(x, lived(), "behind FAULTS");
    });
    Edge.edge(4, "A new VALLEY: nobody wed or DEAD, no SENTENCE.", () -> {
      RimCoins x = lived();
      String text = "who a;who b;who c;who d;who e;coin 5 a;coin 6 b;owes a b 5;owes a b 6;";
      Edge.due(9, Promises.feed(x, text).valley(), "valley()");
      Edge.alike(x, Promises.of(text), "another VALLEY");
      Edge.due(-1, x.said(-1), "said(-1)");
    });
  }

  private static void sentences() {
    Edge.edge(44, "A SENTENCE is a text of at most 200 bytes", () -> {
      Edge.says(1, "stuck" + Edge.blanks(195));
      Edge.says(1, Edge.blanks(195) + "stuck");
      Edge.says(2, "stuck" + Edge.blanks(187) + "or stuck");
      Edge.unsaid(1, 200, "stuck" + Edge.blanks(196));
      Edge.unsaid(1, 200, "stuck" + Promises.many("\n", 935));
    });
    Edge.edge(44, "COND: ALL { 'or' ALL }. ALL: ONE { 'and' ONE }", () -> {
      Edge.unsaid(1, 0, "");
      Edge.unsaid(1, 0, "or stuck");
      Edge.unsaid(1, 0, "and stuck");
      Edge.unsaid(1, 8, "stuck or");
      Edge.unsaid(1, 9, "stuck and");
      Edge.unsaid(1, 9, "stuck or or stuck");
      Edge.unsaid(1, 6, "stuck stuck");
      Edge.unsaid(1, 6, "stuck not stuck");
      Edge.says(3, "stuck or stuck and stuck");
    });
    Edge.edge(44, "ONE: 'not' ONE | ( COND )", () -> {
      Edge.unsaid(1, 3, "not");
      Edge.unsaid(1, 4, "not or");
      Edge.unsaid(1, 1, "()");
      Edge.unsaid(1, 1, "(");
      Edge.unsaid(1, 6, "(stuck");
      Edge.unsaid(1, 5, "stuck)");
      Edge.unsaid(1, 7, "(stuck))");
      Edge.unsaid(1, 6, "(stuck;");
    });
    Edge.edge(44, "'value' | 'names' | 'place' ) SIGN NUMBER", () -> {
      for (String word : new String[] {"value", "names", "place"}) {
        Edge.says(1, word + "=0");
        Edge.says(1, word + "<999");
        Edge.unsaid(1, 5, word);
        Edge.unsaid(1, 6, word + " 5");
        Edge.unsaid(1, 6, word + "=");
        Edge.unsaid(1, 6, word + "==5");
        Edge.unsaid(1, 6, word + "=a");
        Edge.unsaid(1, 6, word + ">1000");
        Edge.unsaid(1, 8, word + "=5 5");
      }
    });
    Edge.edge(44, "20 ONES, 8 within one another (the innermost counts, too)", () -> {
      Edge.says(20, "stuck" + Promises.many(" or stuck", 19));
      Edge.says(20, "not stuck" + Promises.many(" or not stuck", 9));
      Edge.says(20, "(stuck)" + Promises.many("or(stuck)", 9));
      Edge.unsaid(4, 180, "stuck" + Promises.many(" or stuck", 20));
      Edge.says(8, "not not not not not not not stuck");
      Edge.says(8, "(((((((held a)))))))");
      Edge.says(8, "not(not(not(not value=5)))");
      Edge.says(16, "(((((((stuck)))))))and(((((((stuck)))))))");
      Edge.unsaid(4, 32, "not not not not not not not not stuck");
      Edge.unsaid(4, 8, "((((((((stuck))))))))");
    });
    Edge.edge(44, "how many ONES (each not, bracket and other one)", () -> {
      Edge.says(1, "forged");
      Edge.says(2, "not forged");
      Edge.says(2, "(forged)");
      Edge.says(6, "not (held a and value=5) or not bears b");
    });
  }

  private static void sentenceFaults() {
    Edge.edge(44, "FAULTS: 1 (200, if there are more bytes, likewise)", () -> {
      Edge.unsaid(1, 200, Edge.blanks(200));
      Edge.unsaid(1, 200, Edge.blanks(201));
      Edge.unsaid(1, 199, Edge.blanks(199) + "!!");
      Edge.unsaid(1, 200, Edge.blanks(200) + "!");
      Edge.unsaid(1, 200, Edge.blanks(199) + "stuck");
      Edge.unsaid(1, 199, Edge.blanks(199) + "stucks");
      Edge.unsaid(1, 200, Edge.blanks(195) + "held zz");
      Edge.unsaid(1, 200, Edge.blanks(194) + "held abcdefgh");
      Edge.unsaid(3, 199, Edge.blanks(194) + "held abcdefg");
      Edge.unsaid(1, 199, Edge.blanks(194) + "held abcdefghi");
      Edge.unsaid(1, 200, Edge.blanks(193) + "value=999");
      Edge.unsaid(1, 199, Edge.blanks(193) + "value=9999");
      Edge.unsaid(3, 5, "held c" + Edge.blanks(200));
      Edge.unsaid(1, 9, "stuck or !");
    });
    Edge.edge(44, "3 (no such WHO)", () -> {
      for (String word : new String[] {"held", "bears", "goes"}) {
        Edge.says(1, word + " a");
        Edge.unsaid(3, word.length() + 1, word + " c");
        Edge.unsaid(1, word.length() + 1, word + " or");
        Edge.unsaid(1, word.length() + 1, word + " 5");
        Edge.unsaid(1, word.length(), word);
        RimCoins x = new RimCoins();
        Edge.due(-2 - word.length(), Promises.feed(x, word + " a").sentence(), "sentence() of an empty VALLEY");
        Edge.due(3, x.fault(), "fault()");
      }
    });
    Edge.edge(44, "4 a 21st ONE, a ninth within (at its first TOKEN)", () -> {
      String twenty = "stuck" + Promises.many(" or stuck", 19) + " or ";
      for (String one : new String[] {"not stuck", "(stuck)", "held zz", "forged", "value=5", "not", "("}) Edge.unsaid(4, 180, twenty + one);
      for (String one : new String[] {"or", "a", "!", "5", ")"}) Edge.unsaid(1, 180, twenty + one);
      Edge.unsaid(1, 180, twenty);
      String eight = "(not(not(not(not";
      for (String one : new String[] {" not stuck", "(stuck)", " held zz", " names=5"}) Edge.unsaid(4, one.charAt(0) == '(' ? 16 : 17, eight + one);
      Edge.unsaid(1, 17, eight + " and");
      Edge.unsaid(1, 16, eight);
    });
    Edge.edge(44, "-1 less the place of a FAULT: the SENTENCE before stays", () -> {
      RimCoins x = Promises.of("who a;who b;coin 5 a;coin 5 b;");
      Edge.due(1, Promises.feed(x, "held b").sentence(), "sentence()");
      Edge.due(-10, Promises.feed(x, "held a or").sentence(), "the end");
      Edge.due(-1, x.sentence(), "sentence() of an empty tape");
      Edge.due(-16, Promises.feed(x, "held a or held c").sentence(), "no such WHO");
      Edge.due(1, x.said(-1), "said(-1)");
      Edge.due(1, x.said(0), "said(0)");
    });
  }
}
