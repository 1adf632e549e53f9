/** Edges of section 3 and of promises 26 to 30: the tape, and the texts that bar and cost. */
final class TextEdges {
  private static final int BEYOND = Due.BEYOND;
  private static final String SIGNS = "|&<=>+-*/";

  private TextEdges() {}

  static void tell(Sentences doc) {
    doc.says("t3", "TEXTS are of a USE: 0 BAR (not 0: it bars), 1 COST;", TextEdges::uses);
    doc.says("t3", "the last one of a USE is in force (6 at most in all).", TextEdges::sixInAll);
    doc.says("t3", "T: A { | A }. A: N { & N }.", TextEdges::orAnd);
    doc.says("t3", "N: ! N, or S, or S < S, S = S, S > S.", TextEdges::notAndCompared);
    doc.says("t3", "S: P { + P, - P }. P: Q { * Q, / Q }.", TextEdges::sumsAndProducts);
    doc.says("t3", "Q: a NUMBER of 1 to 4 digits, a NAME (height minutes kind wind), ( T ).", TextEdges::singles);
    doc.says("t3", "WORDS (a to z) and NUMBERS are as long as can be;", TextEdges::asLongAsCanBe);
    doc.says("t3", "blanks (32) between any two of these and signs, ahead of the first and behind the last one, too.", TextEdges::blanks);
    doc.says("t3", "At most 6 of ( and !, together, are open at once (! till its N ends).", TextEdges::sixOpen);
    doc.says("t3", "Ints that wrap;", TextEdges::wraps);
    doc.says("t3", "/ by 0 is 0;", TextEdges::byZero);
    doc.says("t3", "| & ! < = > give 1 or 0, what is not 0 is true;", TextEdges::oneOrZero);
    doc.says("t3", "both sides are worked out.", TextEdges::bothSides);
    doc.says("t3", "MINUTES are those asked for (BAR), those in the air (COST);", TextEdges::whichMinutes);
    doc.says("t3", "WIND is that of now.", TextEdges::windOfNow);
    doc.says("t3", "The FAULT is the place of the first byte of the first that can't stand there", TextEdges::faults);
    doc.says("t3", "(how many there are, if it ends too early):", TextEdges::endsTooEarly);
    doc.says("t3", "also of a WORD that is none of these, a NUMBER of more digits,", TextEdges::wrongWords);
    doc.says("t3", "a byte that begins none,", TextEdges::everyByte);
    doc.says("t3", "a seventh ( or !.", TextEdges::theSeventh);
    doc.says("t3", "THE TAPE has bytes, at most 100.", TextEdges::hundredBytes);
    doc.says("t3", "COST without a TEXT: 10 for each MINUTE of SPAN, HEIGHT twice, and MINUTES in the air;", TextEdges::costWithoutAText);
    doc.says("t3", "COST is 0 to 9999 (else the bound).", TextEdges::costBounds);
    doc.says("p26", "THE TAPE gets the n lowest bytes of a number behind it, the highest of these first (n 1 to 4): how many it has.", TextEdges::feed);
    doc.says("p26", "BEYOND: n. FULL.", TextEdges::feedFull);
    doc.says("p27", "THE TAPE is empty: how many it had.", TextEdges::wipe);
    doc.says("p28", "THE TAPE is a TEXT of a USE (0, 1): its number (among all); THE TAPE is empty then.", TextEdges::text);
    doc.says("p28", "BEYOND, FULL (THE TAPE stays in both).", TextEdges::textRefused);
    doc.says("p28", "With a FAULT: -1 less its place (no finding; THE TAPE is empty, too).", TextEdges::textWithAFault);
    doc.says("p29", "The TEXT of a USE in force. BEYOND. NONE.", TextEdges::force);
    doc.says("p30", "What a TEXT comes to (not held) for a HEIGHT, MINUTES, a kind (any ints).", TextEdges::says);
    doc.says("p30", "BEYOND: text.", TextEdges::saysBeyond);
  }

  private static int read(String text) {
    return Due.text(new TowField(), 0, text);
  }

  private static void fine(Due due, String... texts) {
    for (String text : texts) {
      due.is("'" + text + "'", read(text), 0);
    }
  }

  private static void fault(Due due, String text, int place) {
    due.is("'" + text + "'", read(text), -1 - place);
  }

  private static void value(Due due, String text, int want) {
    TowField x = new TowField();
    x.wind(40);
    due.is("'" + text + "' is a text", Due.text(x, 1, text), 0);
    due.is("'" + text + "'", x.says(0, 5, 7, 3), want);
  }

  private static void uses(Due due) {
    for (int use : Edges.around(0, 1)) {
      TowField x = new TowField();
      x.feed('1', 1);
      due.is("a text of use " + use, x.text(use), use == 0 || use == 1 ? 0 : BEYOND);
    }
    TowField x = Edges.oneAsk(2);
    Due.text(x, 0, "0 - 1");
    due.is("a BAR of -1 bars", x.why(0), 9);
    Due.text(x, 0, "0");
    due.is("a BAR of 0 doesn't", x.why(0), 0);
    Due.text(x, 1, "77");
    due.is("a COST bars nothing", x.why(0), 0);
    x.run(4);
    due.is("it costs", x.askIs(0, 9), 77);
  }

  private static void sixInAll(Due due) {
    TowField x = new TowField();
    for (int i = 0; i < 6; i++) {
      due.is("its number", Due.text(x, i < 5 ? 0 : 1, "1"), i);
      due.is("the last BAR", x.force(0), Math.min(i, 4));
      due.is("the last COST", x.force(1), i < 5 ? Due.NONE : 5);
    }
    due.is("a seventh BAR", Due.text(x, 0, "1"), Due.FULL);
    due.is("a seventh COST", Due.text(x, 1, "1"), Due.FULL);
    due.is("in force as before", x.force(0), 4);
    due.is("in force as before, too", x.force(1), 5);
    due.is("six", x.count(9), 6);
  }

  private static void orAnd(Due due) {
    value(due, "0|0|2", 1);
    value(due, "1|1&0", 1);
    value(due, "0&1|1", 1);
    value(due, "1&2&3", 1);
    value(due, "1&0&3", 0);
    fault(due, "|1", 0);
    fault(due, "&1", 0);
    fault(due, "1||1", 2);
    fault(due, "1&&1", 2);
    fault(due, "1|&1", 2);
    fault(due, "1|", 2);
    fault(due, "1&", 2);
    fine(due, "1" + "|1".repeat(49), "1" + "&1".repeat(49));
  }

  private static void notAndCompared(Due due) {
    value(due, "!1<2", 0);
    value(due, "!2<1", 1);
    value(due, "!!2", 1);
    value(due, "!3&0", 0);
    value(due, "!0|0", 1);
    fault(due, "1<2<3", 3);
    fault(due, "1=2=3", 3);
    fault(due, "1>2>3", 3);
    fault(due, "1<!2", 2);
    fault(due, "1+!2", 2);
    fault(due, "2*!1", 2);
    fault(due, "1!", 1);
    fault(due, "<1", 0);
    fault(due, "1<", 2);
    fault(due, "1=<2", 2);
    fault(due, "!", 1);
    fault(due, "!|1", 1);
    fine(due, "1<2&2<3", "(1<2)<3", "1<(2<3)", "1<(!2)", "!(1)=1");
  }

  private static void sumsAndProducts(Due due) {
    value(due, "9-5-3", 1);
    value(due, "9-5+3", 7);
    value(due, "9-(5+3)", 1);
    value(due, "2+3*4-5", 9);
    value(due, "9/2*2", 8);
    value(due, "9*2/4", 4);
    value(due, "100/10/5", 2);
    fault(due, "+1", 0);
    fault(due, "-1", 0);
    fault(due, "1+-1", 2);
    fault(due, "1*/2", 2);
    fault(due, "1-", 2);
    fault(due, "2/", 2);
    fine(due, "1" + "-1".repeat(49), "1" + "/1".repeat(49));
  }

  private static void singles(Due due) {
    String[] numbers = {"0", "9", "00", "99", "000", "999", "0000", "9999"};
    for (String number : numbers) {
      value(due, number, Integer.parseInt(number));
    }
    fault(due, "00000", 0);
    fault(due, "10000", 0);
    value(due, "height", 5);
    value(due, "minutes", 7);
    value(due, "kind", 3);
    value(due, "wind", 40);
    value(due, "(1|0)+(2>1)", 2);
    fault(due, "()", 1);
    fault(due, "(1", 2);
    fault(due, "1)", 1);
    fault(due, "(1)1", 3);
    fault(due, "(1)(1)", 3);
  }

  private static void asLongAsCanBe(Due due) {
    fault(due, "kindwind", 0);
    fault(due, "kindx", 0);
    fault(due, "12345", 0);
    fault(due, "123456789", 0);
    fault(due, "1kind", 1);
    fault(due, "kind1", 4);
    fault(due, "12 34", 3);
    fault(due, "wind kind", 5);
    fault(due, "1234 5", 5);
    fault(due, "min utes", 0);
    fine(due, "1234", "minutes", "kind+wind", "1+2");
  }

  private static void blanks(Due due) {
    String[] tokens = {"!", "(", "height", "+", "1", ")", "<", "2", "|", "kind", "*", "3", "&", "wind", "=", "4"};
    for (int gap = 0; gap <= tokens.length; gap++) {
      StringBuilder text = new StringBuilder();
      for (int i = 0; i <= tokens.length; i++) {
        text.append(i == gap ? "   " : "").append(i < tokens.length ? tokens[i] : "");
      }
      fine(due, text.toString());
    }
    fine(due, " 1", "1 ", "   1   ", " ".repeat(99) + "1", "1" + " ".repeat(99), " ".repeat(50) + "1" + " ".repeat(49));
    for (int other : new int[] {0, 9, 10, 13, 31, 33, 127, 160}) {
      fault(due, "1" + (char) other + "+1", 1);
    }
  }

  /** All ways to open ( and ! are shut again behind a 1. */
  private static String opened(String opens) {
    StringBuilder text = new StringBuilder(opens).append('1');
    for (int i = 0; i < opens.length(); i++) {
      text.append(opens.charAt(i) == '(' ? ")" : "");
    }
    return text.toString();
  }

  private static void sixOpen(Due due) {
    for (int many = 1; many <= 8; many++) {
      for (int which = 0; which < 1 << many; which++) {
        StringBuilder opens = new StringBuilder();
        for (int i = 0; i < many; i++) {
          opens.append((which >> i & 1) == 0 ? '(' : '!');
        }
        due.is("'" + opened(opens.toString()) + "'", read(opened(opens.toString())), many <= 6 ? 0 : -7);
      }
    }
    fine(due, "((((((1))))))+((((((1))))))", "!!!!!!1&!!!!!!1", "!1|((((((1))))))", "(!1)+(((((1)))))", "!1<(((((1)))))");
    fault(due, "!1<((((((1))))))", 8);
    fault(due, "!1+1=((((((1))))))", 10);
    fault(due, "(!1|((((((1)))))))", 9);
  }

  private static void wraps(Due due) {
    value(due, "4096*4096*128-1", Integer.MAX_VALUE);
    value(due, "4096*4096*128", Integer.MIN_VALUE);
    value(due, "4096*4096*256", 0);
    value(due, "9999*9999*9999*9999", (int) (99980001L * 99980001L));
    value(due, "0-4096*4096*128", Integer.MIN_VALUE);
    value(due, "4096*4096*128/(0-1)", Integer.MIN_VALUE);
    TowField x = new TowField();
    Due.text(x, 0, "height+minutes");
    Due.text(x, 0, "height-minutes");
    Due.text(x, 0, "height*minutes");
    Due.text(x, 0, "height<minutes");
    int max = Integer.MAX_VALUE;
    int min = Integer.MIN_VALUE;
    due.is("the largest and 1", x.says(0, max, 1, 0), min);
    due.is("the least and itself", x.says(0, min, min, 0), 0);
    due.is("the least less 1", x.says(1, min, 1, 0), max);
    due.is("0 less the least", x.says(1, 0, min, 0), min);
    due.is("the largest by itself", x.says(2, max, max, 0), 1);
    due.is("the least by -1", x.says(2, min, -1, 0), min);
    due.is("the least is below the largest", x.says(3, min, max, 0), 1);
    due.is("the largest isn't below the least", x.says(3, max, min, 0), 0);
  }

  private static void byZero(Due due) {
    value(due, "0/0", 0);
    value(due, "9999/0", 0);
    value(due, "1/0+1", 1);
    value(due, "7/(kind-3)", 0);
    value(due, "!(1/0)", 1);
    TowField x = new TowField();
    Due.text(x, 0, "height/minutes");
    due.is("the least by 0", x.says(0, Integer.MIN_VALUE, 0, 0), 0);
    due.is("the least by -1", x.says(0, Integer.MIN_VALUE, -1, 0), Integer.MIN_VALUE);
    due.is("cut, 7 by 2", x.says(0, 7, 2, 0), 3);
    due.is("cut, -7 by 2", x.says(0, -7, 2, 0), -3);
    due.is("cut, 7 by -2", x.says(0, 7, -2, 0), -3);
    due.is("cut, -7 by -2", x.says(0, -7, -2, 0), 3);
    due.is("cut, -1 by 2", x.says(0, -1, 2, 0), 0);
  }

  private static void oneOrZero(Due due) {
    TowField x = new TowField();
    String[] texts = {"height|minutes", "height&minutes", "!height", "height<minutes", "height=minutes", "height>minutes"};
    for (String text : texts) {
      Due.text(x, 0, text);
    }
    int[] values = {0, 1, -1, 2, 256, 65536, Integer.MIN_VALUE, Integer.MAX_VALUE};
    for (int a : values) {
      for (int b : values) {
        due.is(a + "|" + b, x.says(0, a, b, 0), a != 0 || b != 0 ? 1 : 0);
        due.is(a + "&" + b, x.says(1, a, b, 0), a != 0 && b != 0 ? 1 : 0);
        due.is("!" + a, x.says(2, a, b, 0), a != 0 ? 0 : 1);
        due.is(a + "<" + b, x.says(3, a, b, 0), (long) a < b ? 1 : 0);
        due.is(a + "=" + b, x.says(4, a, b, 0), (long) a == b ? 1 : 0);
        due.is(a + ">" + b, x.says(5, a, b, 0), (long) a > b ? 1 : 0);
      }
    }
  }

  /** What is worked out in vain must not spoil what comes behind it. */
  private static void bothSides(Due due) {
    value(due, "(1|1/0)+(0&1/0)", 1);
    value(due, "(1|9*9*9)*5+(0&2+3)", 5);
    value(due, "(0&1|1)+(1|0&0)", 2);
    fault(due, "1|x", 2);
    fault(due, "0&12345", 2);
  }

  private static void whichMinutes(Due due) {
    TowField x = Edges.oneAsk(1);
    x.rule(3, 20);
    Due.text(x, 0, "minutes-1");
    Due.text(x, 1, "minutes");
    due.is("BAR: those asked for", x.why(0), 0);
    x.run(22);
    due.is("COST: those in the air", x.askIs(0, 9), 20);
    TowField y = Edges.oneAsk(60);
    Due.text(y, 1, "minutes");
    y.run(62);
    due.is("COST: 60 of them", y.askIs(0, 9), 60);
    TowField z = Edges.oneAsk(2);
    Due.text(z, 1, "minutes");
    z.winch();
    z.cross(2, 3, true);
    z.rule(0, 20);
    z.run(21);
    due.is("COST: those it waited for its LANE, too", z.askIs(0, 9), 19);
  }

  private static void windOfNow(Due due) {
    TowField x = Edges.oneAsk(2);
    Due.text(x, 0, "wind>14");
    Due.text(x, 1, "wind");
    due.is("0", x.says(1, 0, 0, 0), 0);
    x.wind(15);
    due.is("the BAR now", x.why(0), 9);
    x.wind(14);
    due.is("no BAR now", x.why(0), 0);
    x.run(1);
    x.wind(40);
    x.run(3);
    due.is("the COST when it comes down", x.askIs(0, 9), 40);
  }

  private static void faults(Due due) {
    fault(due, "  + 1", 2);
    fault(due, "1   2", 4);
    fault(due, "wind   kind", 7);
    fault(due, "1 + + 1", 4);
    fault(due, "( 1 + 2 ) )", 10);
    fault(due, "1 ( 2 )", 2);
    fault(due, ") + x + 12345", 0);
    fault(due, "1 + x + 12345", 4);
    fault(due, " ".repeat(99) + ")", 99);
    fault(due, "1" + "+1".repeat(49) + "!", 99);
  }

  private static void endsTooEarly(Due due) {
    fault(due, "", 0);
    fault(due, " ", 1);
    fault(due, " ".repeat(100), 100);
    fault(due, "(", 1);
    fault(due, "!", 1);
    fault(due, "(1", 2);
    fault(due, "(1  ", 4);
    fault(due, "1+", 2);
    fault(due, "1+   ", 5);
    fault(due, "1+".repeat(50), 100);
    fault(due, "((((((1)))))", 12);
  }

  private static void wrongWords(Due due) {
    String[] words = {"a", "z", "heigh", "heights", "minute", "kinds", "kin", "win", "winds", "windheight", "x".repeat(96)};
    for (String word : words) {
      fault(due, word, 0);
      fault(due, "1+ " + word, 3);
      fault(due, "1 " + word, 2);
    }
    for (int digits = 1; digits <= 96; digits++) {
      due.is(digits + " digits", read("1+ " + "7".repeat(digits)), digits <= 4 ? 0 : -4);
    }
  }

  private static void everyByte(Due due) {
    for (int b = 0; b < 256; b++) {
      boolean digit = b >= '0' && b <= '9';
      boolean opens = b == ' ' || b == '(' || b == '!';
      due.is("byte " + b + " alone", read("" + (char) b), digit ? 0 : opens ? -2 : -1);
      boolean joins = SIGNS.indexOf(b) >= 0;
      due.is("byte " + b + " behind 1", read("1" + (char) b), digit || b == ' ' ? 0 : joins ? -3 : -2);
    }
  }

  private static void theSeventh(Due due) {
    fault(due, "(((((((1)))))))", 6);
    fault(due, "!!!!!!!1", 6);
    fault(due, "( ( ( ( ( (  ( 1", 13);
    fault(due, "! ( ! ( ! (  ! 1", 13);
    fault(due, "((((((1+(1", 8);
    fine(due, "(((((1+(1))))))", "(((((!1)))))");
  }

  private static void hundredBytes(Due due) {
    TowField x = new TowField();
    for (int i = 1; i <= 100; i++) {
      due.is("byte " + i, x.feed(' ', 1), i);
    }
    due.is("one more", x.feed(' ', 1), Due.FULL);
    due.is("100", x.count(11), 100);
    due.is("the fault of 100 blanks", x.text(0), -101);
    due.is("empty", x.count(11), 0);
    due.is("it has room again", x.feed(' ', 4), 4);
    value(due, "1" + "+1".repeat(49) + " ", 50);
    value(due, " 9" + "-9".repeat(49), -48 * 9);
    value(due, "!1" + "+1".repeat(49), 0);
    value(due, "!0" + "+0".repeat(49), 1);
    value(due, "!!!!!1" + "+1".repeat(46) + "*1", 0);
  }

  private static int costOf(int kind, int height, int minutes, String text) {
    TowField x = Edges.pairs(1);
    x.plane();
    x.winch();
    x.wind(40);
    x.run(4);
    x.wind(0);
    if (!text.isEmpty()) {
      Due.text(x, 1, text);
    }
    x.ask(0, -1, 0, 10 * height + kind, minutes);
    x.run(80);
    return x.askIs(0, 9);
  }

  private static void costWithoutAText(Due due) {
    int[][] edges = {
      {1, 1, 1, 20 + 2 + 2}, {1, 30, 60, 20 + 60 + 60}, {2, 1, 1, 10 + 2 + 2}, {2, 4, 3, 10 + 8 + 3}, {2, 5, 3, 20 + 10 + 3},
      {2, 30, 60, 70 + 60 + 60}, {3, 1, 1, 40 + 2 + 2}, {3, 30, 60, 40 + 60 + 60}, {4, 1, 1, 10 + 2 + 2},
      {4, 9, 5, 10 + 18 + 5}, {4, 10, 5, 20 + 20 + 5}, {4, 30, 60, 60 + 60 + 60}, {5, 1, 1, 50 + 2 + 2}, {5, 30, 60, 110 + 60 + 60},
    };
    for (int[] edge : edges) {
      due.is("kind " + edge[0] + " of " + edge[1] + " for " + edge[2], costOf(edge[0], edge[1], edge[2], ""), edge[3]);
    }
  }

  private static void costBounds(Due due) {
    String[] texts = {"0", "1", "0-1", "9998", "9999", "9999+1", "9999*9999", "4096*4096*128", "4096*4096*128-1"};
    int[] costs = {0, 1, 0, 9998, 9999, 9999, 9999, 0, 9999};
    for (int i = 0; i < texts.length; i++) {
      due.is(texts[i], costOf(4, 1, 1, texts[i]), costs[i]);
    }
  }

  private static void feed(Due due) {
    int[] numbers = {'1' << 24 | '2' << 16 | '3' << 8 | '4', 0xB1B20000 | '3' << 8 | '4', -256 + '4', 0xFFFF3334};
    int[][] dues = {{4, 34, 234, 1234}, {4, 34, -1, -1}, {4, -1, -1, -1}, {4, 34, -1, -1}};
    for (int i = 0; i < numbers.length; i++) {
      for (int n = 1; n <= 4; n++) {
        TowField x = new TowField();
        due.is("how many", x.feed(numbers[i], n), n);
        boolean fine = dues[i][n - 1] >= 0;
        due.is("number " + i + ", " + n + " bytes", x.text(0), fine ? 0 : -1);
        due.is("says", x.says(0, 0, 0, 0), fine ? dues[i][n - 1] : BEYOND);
      }
    }
    TowField y = new TowField();
    y.feed('1', 1);
    y.feed('2' << 8 | '3', 2);
    y.text(0);
    due.is("behind what is there", y.says(0, 0, 0, 0), 123);
  }

  private static void feedFull(Due due) {
    Edges.range(due, "n", 1, 4, TowField::new, (x, v) -> x.feed(0, v));
    for (int has = 95; has <= 100; has++) {
      for (int n = 1; n <= 4; n++) {
        TowField x = Edges.withTape(has);
        boolean fits = has + n <= 100;
        due.is(n + " behind " + has, x.feed(0, n), fits ? has + n : Due.FULL);
        due.is(n + " behind " + has + ", how many", x.count(11), fits ? has + n : has);
      }
    }
    for (int n : Edges.around(1, 4)) {
      due.is("n " + n + ", the tape is full", Edges.withTape(100).feed(0, n), n >= 1 && n <= 4 ? Due.FULL : BEYOND);
    }
  }

  private static void wipe(Due due) {
    for (int has : new int[] {0, 1, 4, 99, 100}) {
      TowField x = Edges.withTape(has);
      due.is("had", x.wipe(), has);
      due.is("is empty", x.count(11), 0);
      due.is("had none", x.wipe(), 0);
      x.feed('7', 1);
      due.is("nothing of it is left", x.text(0), 0);
      due.is("it says", x.says(0, 0, 0, 0), 7);
    }
  }

  private static void text(Due due) {
    TowField x = new TowField();
    for (int i = 0; i < 6; i++) {
      Due.feed(x, "1" + i);
      due.is("its number", x.text(i % 2), i);
      due.is("the tape is empty", x.count(11), 0);
      due.is("texts", x.count(9), i + 1);
    }
    for (int i = 0; i < 6; i++) {
      due.is("each says its own", x.says(i, 0, 0, 0), 10 + i);
    }
  }

  private static void textRefused(Due due) {
    for (int use : Edges.around(0, 1)) {
      if (use != 0 && use != 1) {
        TowField x = new TowField();
        x.feed('1', 1);
        due.is("use " + use, x.text(use), BEYOND);
        due.is("the tape stays", x.text(1), 0);
        TowField y = Edges.withTexts(6);
        y.feed('$', 1);
        due.is("use " + use + " is asked ahead of FULL", y.text(use), BEYOND);
      }
    }
    for (int use = 0; use < 2; use++) {
      TowField x = Edges.withTexts(6);
      due.is("full, of nothing", x.text(use), Due.FULL);
      x.feed('$', 1);
      due.is("full is asked ahead of the fault", x.text(use), Due.FULL);
      due.is("the tape stays", x.count(11), 1);
      x.wipe();
      x.feed('1', 1);
      due.is("full", x.text(use), Due.FULL);
      due.is("the tape stays, too", x.count(11), 1);
    }
  }

  private static void textWithAFault(Due due) {
    for (int place = 0; place <= 99; place++) {
      TowField x = Edges.withTape(place);
      x.feed('$', 1);
      due.is("the fault", x.text(0), -1 - place);
      due.is("the tape is empty", x.count(11), 0);
      due.is("no text", x.count(9), 0);
      due.is("no finding", x.status(-1), 0);
    }
    TowField x = Edges.withTexts(5);
    Due.feed(x, "1+");
    due.is("no number is lost by it", x.text(0), -3);
    due.is("in force as before", x.force(0), 4);
    due.is("the sixth", Due.text(x, 0, "1"), 5);
  }

  private static void force(Due due) {
    Edges.range(due, "use", 0, 1, () -> Edges.withTexts(2), TowField::force);
    for (int use : Edges.around(0, 1)) {
      due.is("none of use " + use, new TowField().force(use), use == 0 || use == 1 ? Due.NONE : BEYOND);
    }
    TowField x = new TowField();
    Due.text(x, 1, "1");
    due.is("no BAR", x.force(0), Due.NONE);
    due.is("a COST", x.force(1), 0);
    Due.text(x, 1, "1");
    due.is("the last COST", x.force(1), 1);
  }

  private static void says(Due due) {
    TowField x = new TowField();
    String[] texts = {"height", "minutes", "kind", "wind"};
    for (String text : texts) {
      Due.text(x, 1, text);
    }
    x.wind(40);
    int[] values = {0, 1, -1, 31, 61, 9999, 10000, -1000001, Integer.MIN_VALUE, Integer.MAX_VALUE};
    for (int v : values) {
      due.is("height", x.says(0, v, 0, 0), v);
      due.is("minutes", x.says(1, 0, v, 0), v);
      due.is("kind", x.says(2, 0, 0, v), v);
      due.is("wind is that of now", x.says(3, v, v, v), 40);
    }
    due.is("no finding among these", x.status(-1), 0);
  }

  private static void saysBeyond(Due due) {
    Edges.range(due, "one text", 0, 0, () -> Edges.withTexts(1), (x, v) -> x.says(v, 0, 0, 0));
    Edges.range(due, "six texts", 0, 5, () -> Edges.withTexts(6), (x, v) -> x.says(v, 0, 0, 0));
    for (int text : Edges.around(0, 5)) {
      due.is("no text " + text, new TowField().says(text, 0, 0, 0), BEYOND);
    }
  }
}
