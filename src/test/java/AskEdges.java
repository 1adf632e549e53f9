/** Edges of section 2 and of promises 17 to 22: kinds of launches, and asks. */
final class AskEdges {
  private static final int BEYOND = Due.BEYOND;
  private static final int LAST_KIND = 5;

  private AskEdges() {}

  static void tell(Sentences doc) {
    doc.says("t2", "LAUNCHES are of kinds: 0 LAUNCH, 1 WINCH under LAUNCH, 2 TOW under LAUNCH, 3 DOUBLE under WINCH, 4 SELF under TOW, 5 RETRIEVE under TOW;", AskEdges::kinds);
    doc.says("t2", "of a HEIGHT (1 to 30).", AskEdges::heights);
    doc.says("t2", "BOUND of WIND: LAUNCH 25; WINCH 5 less; DOUBLE half that of WINCH; SELF 10 less than LAUNCH; RETRIEVE 3 more than TOW.", AskEdges::bounds);
    doc.says("t2", "SPAN (MINUTES on its LANE): LAUNCH 1; WINCH 1 more; DOUBLE twice that of WINCH;", AskEdges::spansOfWinches);
    doc.says("t2", "TOW the quotient of HEIGHT by 5 more than LAUNCH;", AskEdges::spanOfTow);
    doc.says("t2", "SELF that of TOW less 1, but 1 at least;", AskEdges::spanOfSelf);
    doc.says("t2", "RETRIEVE that of TOW and 4 more.", AskEdges::spanOfRetrieve);
    doc.says("t2", "(What is not told is as of the kind above.)", AskEdges::asTheKindAbove);
    doc.says("t2", "ASKS 0, 1, .. (at most 20):", AskEdges::twentyAsks);
    doc.says("t2", "a PERSON who flies, another one along (or -1), a GLIDER,", AskEdges::whoAndWhat);
    doc.says("t2", "a kind (1 to 5), a HEIGHT, for how many MINUTES (1 to 60) in the air;", AskEdges::howAndHowLong);
    doc.says("t2", "each waits (0), is in the air (1), down (2), or gone (3).", AskEdges::states);
    doc.says("p17", "BOUND of a kind (0 to 5). BEYOND.", AskEdges::bound);
    doc.says("p18", "SPAN of a kind (0 to 5) for a HEIGHT. BEYOND.", AskEdges::span);
    doc.says("p19", "A new ASK; with: who is along, or -1; how: 10 * HEIGHT + kind: its number.", AskEdges::newAsk);
    doc.says("p19", "BEYOND: person, with (not who flies), glider, how, minutes.", AskEdges::askBeyond);
    doc.says("p19", "FULL.", AskEdges::askFull);
    doc.says("p20", "Of an ASK: what 0 who flies, 1 along (-1), 2 GLIDER, 3 kind, 4 HEIGHT, 5 MINUTES asked for, 6 0 waits to 3 gone,", AskEdges::askIs);
    doc.says("p20", "7 when it started (-1), 8 when it came down (-1), 9 its COST (down; else -1).", AskEdges::whenAndCost);
    doc.says("p20", "BEYOND.", AskEdges::askIsBeyond);
    doc.says("p21", "An ASK as one of a kind (0 to 5) of launches: its number. BEYOND.", AskEdges::as);
    doc.says("p21", "KIND: it isn't of that kind, nor of one under it.", AskEdges::asAnotherKind);
    doc.says("p22", "An ASK that waits is gone: 1. BEYOND.", AskEdges::back);
    doc.says("p22", "STATE: it doesn't wait.", AskEdges::backTooLate);
  }

  private static TowField asks(int many) {
    TowField x = Edges.pairs(2);
    for (int i = 0; i < many; i++) {
      x.ask(0, -1, 0, 11, 1);
    }
    return x;
  }

  private static void kinds(Due due) {
    int[] above = {-1, 0, 0, 1, 2, 2};
    for (int kind = 1; kind <= LAST_KIND; kind++) {
      TowField x = Edges.pairs(1);
      x.ask(0, -1, 0, 10 + kind, 1);
      boolean[] is = new boolean[LAST_KIND + 1];
      for (int at = kind; at >= 0; at = above[at]) {
        is[at] = true;
      }
      for (int as = 0; as <= LAST_KIND; as++) {
        due.is("kind " + kind + " as " + as, x.as(0, as), is[as] ? 0 : Due.KIND);
      }
    }
  }

  private static void heights(Due due) {
    for (int kind = 0; kind <= LAST_KIND; kind++) {
      int of = kind;
      Edges.range(due, "height of " + kind, 1, 30, TowField::new, (x, v) -> x.span(of, v));
    }
    for (int kind = 1; kind <= LAST_KIND; kind++) {
      int of = kind;
      for (int height = -2; height <= 33; height++) {
        boolean fine = height >= 1 && height <= 30;
        due.is("asked of height " + height, asks(0).ask(0, -1, 0, 10 * height + of, 1), fine ? 0 : BEYOND);
      }
    }
  }

  private static void bounds(Due due) {
    int[] bounds = {25, 20, 25, 10, 15, 28};
    for (int kind = 0; kind <= LAST_KIND; kind++) {
      due.is("kind " + kind, new TowField().bound(kind), bounds[kind]);
    }
  }

  private static void spansOfWinches(Due due) {
    for (int height = 1; height <= 30; height++) {
      due.is("LAUNCH " + height, new TowField().span(0, height), 1);
      due.is("WINCH " + height, new TowField().span(1, height), 2);
      due.is("DOUBLE " + height, new TowField().span(3, height), 4);
    }
  }

  private static void spanOfTow(Due due) {
    int[][] edges = {{1, 1}, {4, 1}, {5, 2}, {9, 2}, {10, 3}, {14, 3}, {15, 4}, {19, 4}, {20, 5}, {24, 5}, {25, 6}, {29, 6}, {30, 7}};
    for (int[] edge : edges) {
      due.is("HEIGHT " + edge[0], new TowField().span(2, edge[0]), edge[1]);
    }
  }

  private static void spanOfSelf(Due due) {
    int[][] edges = {{1, 1}, {4, 1}, {5, 1}, {9, 1}, {10, 2}, {14, 2}, {15, 3}, {24, 4}, {25, 5}, {29, 5}, {30, 6}};
    for (int[] edge : edges) {
      due.is("HEIGHT " + edge[0], new TowField().span(4, edge[0]), edge[1]);
    }
  }

  private static void spanOfRetrieve(Due due) {
    int[][] edges = {{1, 5}, {4, 5}, {5, 6}, {9, 6}, {10, 7}, {24, 9}, {25, 10}, {29, 10}, {30, 11}};
    for (int[] edge : edges) {
      due.is("HEIGHT " + edge[0], new TowField().span(5, edge[0]), edge[1]);
    }
  }

  private static void asTheKindAbove(Due due) {
    due.is("BOUND of TOW is that of LAUNCH", new TowField().bound(2), 25);
    TowField x = Edges.pairs(1);
    x.plane();
    x.ask(0, -1, 0, 12, 1);
    x.wind(25);
    due.is("at it", x.why(0), 0);
    x.wind(26);
    due.is("above it", x.why(0), 6);
  }

  private static void twentyAsks(Due due) {
    TowField x = asks(0);
    for (int i = 0; i < 20; i++) {
      due.is("there are", x.count(4), i);
      due.is("not there yet", x.askIs(i, 6), BEYOND);
      due.is("its number", x.ask(0, -1, 0, 11, 1), i);
      due.is("waits", x.askIs(i, 6), 0);
    }
    due.is("one more", x.ask(0, -1, 0, 11, 1), Due.FULL);
    due.is("twenty", x.count(4), 20);
    due.is("20 is none", x.askIs(20, 6), BEYOND);
    x.back(19);
    due.is("one that is gone keeps its number", x.ask(0, -1, 0, 11, 1), Due.FULL);
  }

  private static void whoAndWhat(Due due) {
    TowField x = Edges.pairs(10);
    for (int i = 10; i < 14; i++) {
      x.person(60, 0);
    }
    x.ask(13, 0, 9, 11, 1);
    x.ask(0, 13, 0, 11, 1);
    x.ask(0, -1, 9, 11, 1);
    int[][] told = {{13, 0, 9}, {0, 13, 0}, {0, -1, 9}};
    for (int ask = 0; ask < 3; ask++) {
      for (int what = 0; what < 3; what++) {
        due.is("ask " + ask + " what " + what, x.askIs(ask, what), told[ask][what]);
      }
    }
  }

  private static void howAndHowLong(Due due) {
    for (int kind = 0; kind <= 9; kind++) {
      due.is("kind " + kind, asks(0).ask(0, -1, 0, 50 + kind, 1), kind >= 1 && kind <= LAST_KIND ? 0 : BEYOND);
    }
    Edges.range(due, "minutes", 1, 60, () -> asks(0), (x, v) -> x.ask(0, -1, 0, 11, v));
    for (int minutes : new int[] {3, 59, 60}) {
      TowField x = Edges.oneAsk(minutes);
      x.run(minutes + 1);
      due.is("in the air for " + minutes, x.askIs(0, 6), 1);
      x.run(1);
      due.is("down after " + minutes, x.askIs(0, 8), minutes + 1);
    }
  }

  private static void states(Due due) {
    TowField x = asks(0);
    x.ask(0, -1, 0, 14, 2);
    x.ask(1, -1, 1, 14, 2);
    due.is("waits", x.askIs(0, 6), 0);
    x.back(1);
    due.is("gone", x.askIs(1, 6), 3);
    x.run(1);
    due.is("in the air", x.askIs(0, 6), 1);
    x.run(2);
    due.is("in the air yet", x.askIs(0, 6), 1);
    x.run(1);
    due.is("down", x.askIs(0, 6), 2);
    x.run(100);
    due.is("down for ever", x.askIs(0, 6), 2);
    due.is("gone for ever", x.askIs(1, 6), 3);
  }

  private static void bound(Due due) {
    Edges.range(due, "kind", 0, 5, TowField::new, TowField::bound);
    due.is("the least", new TowField().bound(0), 25);
    due.is("the largest", new TowField().bound(5), 28);
  }

  private static void span(Due due) {
    Edges.range(due, "kind", 0, 5, TowField::new, (x, v) -> x.span(v, 1));
    Edges.range(due, "kind, of 30", 0, 5, TowField::new, (x, v) -> x.span(v, 30));
    Edges.range(due, "height", 1, 30, TowField::new, (x, v) -> x.span(0, v));
    due.is("the least", new TowField().span(0, 1), 1);
    due.is("the largest", new TowField().span(5, 30), 11);
  }

  private static void newAsk(Due due) {
    for (int how : Edges.around(0, 320)) {
      int kind = how % 10;
      int height = how / 10;
      boolean fine = how > 0 && kind >= 1 && kind <= LAST_KIND && height >= 1 && height <= 30;
      TowField x = asks(0);
      due.is("how " + how, x.ask(0, 1, 0, how, 1), fine ? 0 : BEYOND);
      due.is("its kind", x.askIs(0, 3), fine ? kind : BEYOND);
      due.is("its height", x.askIs(0, 4), fine ? height : BEYOND);
    }
  }

  private static void askBeyond(Due due) {
    Edges.range(due, "person", 0, 1, () -> asks(0), (x, v) -> x.ask(v, -1, 0, 11, 1));
    Edges.range(due, "with, of who flies 1", -1, 0, () -> asks(0), (x, v) -> x.ask(1, v, 0, 11, 1));
    due.is("with 1, of who flies 0", asks(0).ask(0, 1, 0, 11, 1), 0);
    due.is("with who flies, 0", asks(0).ask(0, 0, 0, 11, 1), BEYOND);
    due.is("with who flies, 1", asks(0).ask(1, 1, 0, 11, 1), BEYOND);
    due.is("with 2, who isn't there", asks(0).ask(0, 2, 0, 11, 1), BEYOND);
    due.is("with -2", asks(0).ask(0, -2, 0, 11, 1), BEYOND);
    Edges.range(due, "glider", 0, 1, () -> asks(0), (x, v) -> x.ask(0, -1, v, 11, 1));
    for (int how : new int[] {10, 16, 20, 300, 306, 311, 1, 5, -11, Integer.MIN_VALUE + 11}) {
      due.is("how " + how, asks(0).ask(0, -1, 0, how, 1), BEYOND);
    }
    Edges.range(due, "minutes", 1, 60, () -> asks(0), (x, v) -> x.ask(0, -1, 0, 305, v));
    due.is("nobody is there", new TowField().ask(0, -1, 0, 11, 1), BEYOND);
    TowField x = new TowField();
    x.person(60, 0);
    due.is("no glider is there", x.ask(0, -1, 0, 11, 1), BEYOND);
    TowField y = new TowField();
    y.glider(1, 100, 0, 0);
    due.is("a glider and nobody", y.ask(0, -1, 0, 11, 1), BEYOND);
  }

  private static void askFull(Due due) {
    due.is("the twentieth", asks(19).ask(0, -1, 0, 11, 1), 19);
    due.is("full", asks(20).ask(0, -1, 0, 11, 1), Due.FULL);
    due.is("person is asked first", asks(20).ask(2, -1, 0, 11, 1), BEYOND);
    due.is("with is asked first", asks(20).ask(0, 0, 0, 11, 1), BEYOND);
    due.is("glider is asked first", asks(20).ask(0, -1, 2, 11, 1), BEYOND);
    due.is("how is asked first", asks(20).ask(0, -1, 0, 10, 1), BEYOND);
    due.is("minutes are asked first", asks(20).ask(0, -1, 0, 11, 61), BEYOND);
  }

  private static void expect(Due due, String what, TowField x, int ask, int... told) {
    for (int i = 0; i < told.length; i++) {
      due.is(what + ", what " + i, x.askIs(ask, i), told[i]);
    }
  }

  private static void askIs(Due due) {
    TowField x = asks(18);
    x.ask(1, -1, 1, 11, 1);
    x.ask(1, 0, 1, 305, 60);
    expect(due, "the least", x, 18, 1, -1, 1, 1, 1, 1, 0);
    expect(due, "the largest", x, 19, 1, 0, 1, 5, 30, 60, 0);
    x.back(19);
    expect(due, "gone", x, 19, 1, 0, 1, 5, 30, 60, 3);
  }

  private static void whenAndCost(Due due) {
    TowField x = asks(0);
    x.ask(0, -1, 0, 14, 2);
    x.ask(1, -1, 1, 14, 2);
    expect(due, "waits", x, 0, 0, -1, 0, 4, 1, 2, 0, -1, -1, -1);
    x.back(1);
    x.run(1);
    expect(due, "in the air since 0", x, 0, 0, -1, 0, 4, 1, 2, 1, 0, -1, -1);
    expect(due, "gone", x, 1, 1, -1, 1, 4, 1, 2, 3, -1, -1, -1);
    x.run(3);
    expect(due, "down in 3", x, 0, 0, -1, 0, 4, 1, 2, 2, 0, 3, 14);
    x.pay(0, 14);
    due.is("what is paid stays its cost", x.askIs(0, 9), 14);
    TowField y = Edges.pairs(1);
    Edges.goTo(y, 899);
    y.ask(0, -1, 0, 14, 2);
    y.run(1);
    due.is("the last start", y.askIs(0, 7), 899);
    TowField z = Edges.oneAsk(2);
    Due.text(z, 1, "0");
    z.run(4);
    due.is("a cost of 0", z.askIs(0, 9), 0);
  }

  private static void askIsBeyond(Due due) {
    Edges.range(due, "what", 0, 9, () -> asks(1), (x, v) -> x.askIs(0, v));
    Edges.range(due, "one ask", 0, 0, () -> asks(1), (x, v) -> x.askIs(v, 0));
    Edges.range(due, "twenty asks", 0, 19, () -> asks(20), (x, v) -> x.askIs(v, 9));
    due.is("no ask", asks(0).askIs(0, 0), BEYOND);
  }

  private static void as(Due due) {
    Edges.range(due, "one ask", 0, 0, () -> asks(1), (x, v) -> x.as(v, 0));
    Edges.range(due, "twenty asks", 0, 19, () -> asks(20), (x, v) -> x.as(v, 0));
    for (int ask = 0; ask < 20; ask++) {
      due.is("its number", asks(20).as(ask, 1), ask);
    }
    for (int kind : Edges.around(0, 5)) {
      int want = kind == 0 || kind == 1 ? 0 : kind >= 2 && kind <= 5 ? Due.KIND : BEYOND;
      due.is("a winch ask as " + kind, asks(1).as(0, kind), want);
    }
    due.is("no ask", asks(0).as(0, 0), BEYOND);
    due.is("no ask ahead of its kind", asks(0).as(0, 2), BEYOND);
  }

  private static void asAnotherKind(Due due) {
    String[] fits = {"110000", "101000", "110100", "101010", "101001"};
    for (int kind = 1; kind <= LAST_KIND; kind++) {
      for (int as = 0; as <= LAST_KIND; as++) {
        TowField x = Edges.pairs(1);
        x.ask(0, -1, 0, 300 + kind, 60);
        due.is(kind + " as " + as, x.as(0, as), fits[kind - 1].charAt(as) == '1' ? 0 : Due.KIND);
        x.back(0);
        due.is(kind + " as " + as + ", gone", x.as(0, as), fits[kind - 1].charAt(as) == '1' ? 0 : Due.KIND);
      }
    }
  }

  private static void back(Due due) {
    Edges.range(due, "one ask", 0, 0, () -> asks(1), TowField::back);
    Edges.range(due, "twenty asks", 0, 19, () -> asks(20), TowField::back);
    due.is("no ask", asks(0).back(0), BEYOND);
    TowField x = asks(20);
    for (int ask = 19; ask >= 0; ask--) {
      due.is("gone", x.back(ask), 1);
      due.is("those that wait", x.count(5), ask);
      due.is("those gone", x.count(8), 20 - ask);
    }
  }

  private static void backTooLate(Due due) {
    TowField x = Edges.oneAsk(2);
    x.run(1);
    due.is("in the air", x.back(0), Due.STATE);
    x.run(3);
    due.is("down", x.back(0), Due.STATE);
    TowField y = asks(1);
    y.back(0);
    due.is("gone", y.back(0), Due.STATE);
    due.is("it stays gone", y.askIs(0, 6), 3);
  }
}
