/** Edges of what stands ahead of the numbered terms: findings, sets and quotients. */
final class RefusalEdges {
  private static final int BEYOND = Due.BEYOND;
  private static final int FINDINGS = 7;

  private RefusalEdges() {}

  static void tell(Sentences doc) {
    doc.says("t0", "FINDINGS are answers below -1000000: -1000001 BEYOND, -1000002 FULL, -1000003 KIND, -1000004 NONE, -1000005 STATE, -1000006 MISSING, -1000007 SIZE.", RefusalEdges::findings);
    doc.says("t0", "What says() tells may be any int: that is no finding.", RefusalEdges::saysIsNone);
    doc.says("t0", "Each act tells its findings in the order in which they are asked;", RefusalEdges::inTheirOrder);
    doc.says("t0", "one that answers a finding changes nothing but status().", RefusalEdges::changeNothing);
    doc.says("t0", "Sets are told by bits.", RefusalEdges::sets);
    doc.says("t0", "Quotients are cut.", RefusalEdges::quotients);
  }

  private static void findings(Due due) {
    TowField x = Edges.oneAsk(1);
    for (int i = 0; i < 3; i++) {
      x.plane();
    }
    due.is("BEYOND", x.wind(41), -1000001);
    due.is("FULL", x.plane(), -1000002);
    due.is("KIND", x.as(0, 1), -1000003);
    due.is("NONE", x.undo(), -1000004);
    due.is("STATE", x.pay(0, 1), -1000005);
    due.is("MISSING", x.check(0), -1000006);
    due.is("SIZE", x.sheet(0, 8, -1), -1000007);
    int number = 0;
    for (Refusals refused : Refusals.ALL) {
      due.is("refused call " + number, refused.call.applyAsInt(refused.start.make()), refused.finding);
      number++;
    }
  }

  private static void saysIsNone(Due due) {
    TowField x = new TowField();
    Due.text(x, 0, "height");
    for (int v = -1000008; v <= -999999; v++) {
      due.is("says", x.says(0, v, 0, 0), v);
    }
    due.is("the least", x.says(0, Integer.MIN_VALUE, 0, 0), Integer.MIN_VALUE);
    for (int which = -1; which < FINDINGS; which++) {
      due.is("status(" + which + ")", x.status(which), 0);
    }
    due.is("no such text is one", x.says(1, 0, 0, 0), BEYOND);
    due.is("and is counted", x.status(0), 1);
  }

  /** Calls that could answer two findings or more: the one that is asked first is due. */
  private static void inTheirOrder(Due due) {
    TowField full = Afternoon.full();
    due.is("glider: BEYOND ahead of FULL", full.glider(3, 100, 0, 0), BEYOND);
    due.is("person: BEYOND ahead of FULL", full.person(60, 1), BEYOND);
    due.is("ask: BEYOND ahead of FULL", full.ask(0, -1, 0, 11, 0), BEYOND);
    due.is("feed: BEYOND ahead of FULL", full.feed(0, 0), BEYOND);
    due.is("text: BEYOND ahead of FULL", full.text(2), BEYOND);
    due.is("run: BEYOND ahead of FULL", full.run(0), BEYOND);
    full.wipe();
    due.is("text: FULL ahead of a FAULT", full.text(0), Due.FULL);
    TowField x = Afternoon.busy();
    due.is("as: BEYOND ahead of KIND", x.as(6, 1), BEYOND);
    due.is("force: BEYOND ahead of NONE", new TowField().force(2), BEYOND);
    due.is("share: BEYOND ahead of NONE", x.share(5, 10000), BEYOND);
    due.is("share: BEYOND below 0 ahead of NONE", x.share(5, -1), BEYOND);
    due.is("pay: BEYOND ahead of STATE", x.pay(2, 100000), BEYOND);
    due.is("check: BEYOND ahead of MISSING", new TowField().check(4), BEYOND);
    due.is("sheet: BEYOND of the sheet ahead of SIZE", x.sheet(4, 8, -1), BEYOND);
    due.is("sheet: BEYOND of bits ahead of SIZE", x.sheet(0, 9, -1), BEYOND);
    due.is("sheet: SIZE", x.sheet(0, 8, -1), Due.SIZE);
    due.is("write: BEYOND ahead of MISSING", new TowField().write(4, 0, 0), BEYOND);
    due.is("write: MISSING ahead of BEYOND", x.write(2, 24, 0), Due.MISSING);
    due.is("copy: BEYOND of t ahead of MISSING of s", x.copy(2, 0, 4, 0, 0), BEYOND);
    due.is("copy: BEYOND of s ahead of MISSING of t", x.copy(-1, 0, 2, 0, 0), BEYOND);
    due.is("copy: MISSING ahead of BEYOND", x.copy(2, -1, 0, -1, -1), Due.MISSING);
    due.is("copy: KIND ahead of BEYOND", x.copy(0, -1, 1, -1, -1), Due.KIND);
    due.is("copy: BEYOND at last", x.copy(0, -1, 3, -1, -1), BEYOND);
  }

  private static void changeNothing(Due due) {
    int number = 0;
    for (Refusals refused : Refusals.ALL) {
      for (int part = 0; part < Picture.PARTS; part++) {
        TowField x = refused.start.make();
        refused.call.applyAsInt(x);
        String was = Picture.part(refused.start.make(), part);
        due.holds("call " + number + " changes nothing, part " + part, Picture.part(x, part).equals(was));
      }
      expectCounted(due, number, refused);
      number++;
    }
  }

  private static void expectCounted(Due due, int number, Refusals refused) {
    TowField x = refused.start.make();
    int[] before = new int[FINDINGS + 1];
    for (int which = -1; which < FINDINGS; which++) {
      before[which + 1] = x.status(which);
    }
    refused.call.applyAsInt(x);
    for (int which = -1; which < FINDINGS; which++) {
      int more = which == -1 || BEYOND - which == refused.finding ? 1 : 0;
      due.is("call " + number + " in status(" + which + ")", x.status(which), before[which + 1] + more);
    }
  }

  private static void sets(Due due) {
    for (int person = 0; person < 14; person++) {
      TowField x = new TowField();
      for (int i = 0; i < 14; i++) {
        x.person(60, 0);
      }
      x.glider(1, 100, 0, 1 << person);
      x.share(0, 5);
      due.is("OWNERS " + person, x.personIs(person, 3), 5);
    }
    for (int kind = 1; kind <= 6; kind++) {
      TowField x = new TowField();
      x.person(60, 1 << kind);
      due.is("PAPERS " + kind, x.paper(0, kind, true), 0);
    }
    for (int ask = 0; ask < 20; ask++) {
      TowField x = Edges.pairs(1);
      for (int i = 0; i < 20; i++) {
        x.ask(0, -1, 0, i == ask ? 14 : 11, 60);
      }
      due.is("in the air " + ask, x.ahead(1, 2), 1 << ask);
      due.is("waits but " + ask, x.ahead(1, 3), (1 << 20) - 1 - (1 << ask));
      due.is("late but " + ask, x.late(0), (1 << 20) - 1 - (1 << ask));
    }
  }

  private static void quotients(Due due) {
    for (int height = 1; height <= 30; height++) {
      int fives = 0;
      for (int left = height; left >= 5; left -= 5) {
        fives++;
      }
      due.is("SPAN of " + height, new TowField().span(2, height), 1 + fives);
    }
    TowField x = new TowField();
    for (int i = 0; i < 3; i++) {
      x.person(60, 0);
    }
    x.glider(1, 100, 0, 7);
    x.share(0, 2);
    due.is("a SHARE of 2 among 3, the last", x.personIs(2, 3), 0);
    x.share(0, 5);
    due.is("and of 5", x.personIs(2, 3), 1);
    Due.text(x, 0, "height/minutes");
    int[][] edges = {{7, 2, 3}, {-7, 2, -3}, {7, -2, -3}, {-7, -2, 3}, {1, 2, 0}, {-1, 2, 0}, {1, -2, 0}, {6, 3, 2}, {-6, 3, -2}};
    for (int[] edge : edges) {
      due.is(edge[0] + " by " + edge[1], x.says(0, edge[0], edge[1], 0), edge[2]);
    }
    due.is("BOUND of DOUBLE, half of 20", x.bound(3), 10);
  }
}
