/** Edges of section 4 and of promises 23 to 25: why an ask can't go, clear lanes, and what is next. */
final class WhyEdges {
  private static final int BEYOND = Due.BEYOND;
  private static final int CAUSES = 11;

  private WhyEdges() {}

  static void tell(Sentences doc) {
    doc.says("t4", "WHY an ASK that waits can't go now, the first of these:", WhyEdges::theFirstOfAll);
    doc.says("t4", "1 its GLIDER isn't in the row;", WhyEdges::row);
    doc.says("t4", "2 somebody along, and one SEAT;", WhyEdges::seats);
    doc.says("t4", "3 WEIGHTS together above MOST;", WhyEdges::weights);
    doc.says("t4", "4 no PAPERS for just its kind of who flies,", WhyEdges::papers);
    doc.says("t4", "unless who is along is a TEACHER and has these;", WhyEdges::teacher);
    doc.says("t4", "5 RECENT is above 0, who flies came down more than so many MINUTES ago (or never),", WhyEdges::recent);
    doc.says("t4", "and no TEACHER is along;", WhyEdges::recentWithATeacher);
    doc.says("t4", "6 WIND above BOUND;", WhyEdges::wind);
    doc.says("t4", "7 its LINK isn't there;", WhyEdges::link);
    doc.says("t4", "8 who flies, or is along, is in the air;", WhyEdges::inTheAir);
    doc.says("t4", "9 BAR;", WhyEdges::bar);
    doc.says("t4", "10 no ROPE that is OUT (WINCH; DOUBLE: no WINCH both ROPES of which are),", WhyEdges::ropes);
    doc.says("t4", "no PLANE that is there (TOW, RETRIEVE; SELF needs none);", WhyEdges::planes);
    doc.says("t4", "11 its LANE isn't CLEAR. 0: it can.", WhyEdges::lane);
    doc.says("t4", "MOVEMENTS are on a LANE from a MINUTE on to ahead of another one.", WhyEdges::movements);
    doc.says("t4", "A LANE is CLEAR for n MINUTES from the open one on, if no MOVEMENT on a LANE that CROSSES it is in any of these.", WhyEdges::clearLanes);
    doc.says("t4", "(A launch asks for SPAN MINUTES, a landing for 2, fetching for FETCH.)", WhyEdges::howLongEachHasItsLane);
    doc.says("p23", "WHY. BEYOND.", WhyEdges::why);
    doc.says("p23", "STATE: it doesn't wait.", WhyEdges::whyTooLate);
    doc.says("p24", "Whether a LANE is CLEAR for n MINUTES (1 to 60): 1, 0. BEYOND.", WhyEdges::clear);
    doc.says("p25", "NEXT.", WhyEdges::next);
  }

  /** An ask (the last one) that just these causes (bits 1 to 11) keep from going. */
  private static TowField kept(int causes) {
    TowField x = new TowField();
    x.person(60, has(causes, 4) ? 16 : 20);
    x.person(60, 4);
    x.person(60, 16);
    x.glider(has(causes, 2) ? 1 : 2, has(causes, 3) ? 119 : 120, 3, 0);
    x.glider(2, 250, 0, 0);
    if (has(causes, 1)) {
      x.ask(2, -1, 0, 14, 60);
    }
    if (has(causes, 8)) {
      x.ask(0, -1, 1, 14, 60);
    }
    x.run(2);
    if (has(causes, 11)) {
      x.winch();
      x.lane(3, 1);
      x.rule(0, 20);
      x.run(1);
    }
    if (!has(causes, 10)) {
      x.plane();
    }
    x.rule(1, has(causes, 5) ? 900 : 0);
    x.wind(has(causes, 6) ? 26 : 25);
    x.link(3, !has(causes, 7));
    Due.text(x, 0, has(causes, 9) ? "wind>24&height=1&minutes=5&kind=2" : "wind>26");
    x.ask(0, 1, 0, 12, 5);
    return x;
  }

  private static boolean has(int causes, int cause) {
    return (causes >> cause & 1) != 0;
  }

  private static void theFirstOfAll(Due due) {
    for (int causes = 0; causes < 2 << CAUSES; causes += 2) {
      TowField x = kept(causes);
      int first = causes == 0 ? 0 : Integer.numberOfTrailingZeros(causes);
      String what = "of the causes " + Integer.toBinaryString(causes);
      int ask = x.count(4) - 1;
      due.is(what, x.why(ask), first);
      due.is(what + ", ahead", x.ahead(1, 3), first == 0 ? 0 : 1 << ask);
      due.is(what + ", late", x.late(x.count(10)), first == 0 ? 0 : 1 << ask);
      x.run(1);
      due.is(what + ", then", x.askIs(ask, 6), first == 0 ? 1 : 0);
    }
  }

  private static void row(Due due) {
    TowField x = Edges.pairs(2);
    x.ask(0, -1, 0, 14, 2);
    x.ask(1, -1, 0, 14, 2);
    due.is("in the row", x.why(1), 0);
    x.run(1);
    due.is("in the air", x.why(1), 1);
    x.run(2);
    due.is("due, but in the air yet", x.why(1), 1);
    x.run(1);
    due.is("the other one has it, in the MINUTE it came down", x.askIs(1, 7), 3);
  }

  private static void seats(Due due) {
    TowField x = new TowField();
    x.person(60, 126);
    x.person(60, 126);
    x.glider(1, 250, 0, 0);
    x.glider(2, 250, 0, 0);
    x.ask(0, 1, 0, 14, 1);
    x.ask(1, 0, 0, 14, 1);
    x.ask(0, -1, 0, 14, 1);
    x.ask(0, 1, 1, 14, 1);
    x.ask(0, -1, 1, 14, 1);
    int[] whys = {2, 2, 0, 0, 0};
    for (int ask = 0; ask < whys.length; ask++) {
      due.is("ask " + ask, x.why(ask), whys[ask]);
    }
  }

  /** WHY by these weights, with who flies being 0 or, if they change their places, 1. */
  private static int whyOfWeights(int flies, int along, int most, int who) {
    TowField x = new TowField();
    x.person(who == 0 ? flies : Math.abs(along), 126);
    x.person(who == 0 ? Math.abs(along) : flies, 126);
    x.glider(2, most, 0, 0);
    x.ask(who, along < 0 ? -1 : 1 - who, 0, 14, 1);
    return x.why(0);
  }

  private static void weights(Due due) {
    // Who flies, who is along (below 0: nobody, though one of that weight is there), MOST, WHY.
    int[][] edges = {
      {60, -130, 60, 0}, {61, -40, 60, 3}, {130, -130, 130, 0}, {120, 130, 250, 0}, {121, 130, 250, 3}, {130, 121, 250, 3},
      {130, 130, 250, 3}, {40, 40, 80, 0}, {40, 40, 79, 3}, {60, 40, 60, 3},
    };
    for (int[] edge : edges) {
      for (int who = 0; who < 2; who++) {
        due.is(edge[0] + " and " + edge[1] + " of " + edge[2], whyOfWeights(edge[0], edge[1], edge[2], who), edge[3]);
      }
    }
  }

  /** WHY of an ask of a kind by these papers; nothing but papers can keep it, or the gear. */
  private static int whyOfPapers(int kind, int flies, int along) {
    TowField x = new TowField();
    x.person(60, flies);
    x.person(60, along < 0 ? 0 : along);
    x.glider(2, 250, 0, 0);
    x.ask(0, along < 0 ? -1 : 1, 0, 10 + kind, 1);
    return x.why(0) == 4 ? 4 : 0;
  }

  private static void papers(Due due) {
    for (int kind = 1; kind <= 5; kind++) {
      due.is("none, for " + kind, whyOfPapers(kind, 0, -1), 4);
      due.is("all, for " + kind, whyOfPapers(kind, 126, -1), 0);
      due.is("all others, for " + kind, whyOfPapers(kind, 126 & ~(1 << kind), -1), 4);
      for (int has = 1; has <= 6; has++) {
        due.is("only " + has + ", for " + kind, whyOfPapers(kind, 1 << has, -1), has == kind ? 0 : 4);
      }
    }
  }

  private static void teacher(Due due) {
    for (int kind = 1; kind <= 5; kind++) {
      due.is("a TEACHER with these, for " + kind, whyOfPapers(kind, 0, 64 | 1 << kind), 0);
      due.is("a TEACHER without these, for " + kind, whyOfPapers(kind, 0, 126 & ~(1 << kind)), 4);
      due.is("a TEACHER with none, for " + kind, whyOfPapers(kind, 0, 64), 4);
      due.is("these, but no TEACHER, for " + kind, whyOfPapers(kind, 0, 62), 4);
      due.is("a TEACHER who flies, for " + kind, whyOfPapers(kind, 64, 62), 4);
      due.is("one's own, with nobody's along, for " + kind, whyOfPapers(kind, 1 << kind, 0), 0);
    }
  }

  /** Somebody who came down in MINUTE 3, so many MINUTES later, asks again. */
  private static TowField cameDown(int ago, int alongPapers) {
    TowField x = new TowField();
    x.person(60, 16);
    x.person(60, Math.max(0, alongPapers));
    x.glider(2, 250, 0, 0);
    x.ask(0, -1, 0, 14, 2);
    Edges.goTo(x, Math.max(4, 3 + ago));
    x.ask(0, alongPapers < 0 ? -1 : 1, 0, 14, 2);
    return x;
  }

  private static void recent(Due due) {
    int[][] edges = {{1, 1, 0}, {2, 1, 5}, {5, 5, 0}, {6, 5, 5}, {897, 897, 0}, {897, 896, 5}, {897, 900, 0}, {897, 0, 0}};
    for (int[] edge : edges) {
      TowField x = cameDown(edge[0], -1);
      due.is("came down in", x.personIs(0, 2), 3);
      x.rule(1, edge[1]);
      due.is(edge[0] + " MINUTES ago, RECENT " + edge[1], x.why(1), edge[2]);
    }
    for (int rule : new int[] {0, 1, 900}) {
      TowField x = Edges.oneAsk(1);
      x.rule(1, rule);
      due.is("never, RECENT " + rule, x.why(0), rule == 0 ? 0 : 5);
    }
    TowField y = Edges.oneAsk(2);
    y.ask(0, -1, 0, 14, 2);
    y.run(3);
    y.rule(1, 1);
    due.is("in the MINUTE one came down one may go again", y.ahead(1, 0), 1);
    TowField z = Edges.pairs(2);
    z.ask(0, 1, 0, 14, 2);
    z.run(4);
    z.rule(1, 1);
    z.ask(1, -1, 1, 14, 2);
    due.is("one who was along came down, too", z.why(1), 0);
  }

  private static void recentWithATeacher(Due due) {
    int[][] edges = {{-1, 5}, {0, 5}, {62, 5}, {64, 0}, {126, 0}};
    for (int[] edge : edges) {
      TowField x = cameDown(6, edge[0]);
      x.rule(1, 5);
      due.is("along with papers " + edge[0], x.why(1), edge[1]);
    }
    TowField y = new TowField();
    y.person(60, 16 + 64);
    y.person(60, 16);
    y.glider(2, 250, 0, 0);
    y.ask(0, 1, 0, 14, 1);
    y.ask(1, 0, 0, 14, 1);
    y.rule(1, 1);
    due.is("a TEACHER who flies", y.why(0), 5);
    due.is("a TEACHER along, and never came down", y.why(1), 0);
  }

  private static void wind(Due due) {
    int[] bounds = {0, 20, 25, 10, 15, 28};
    for (int kind = 1; kind <= 5; kind++) {
      TowField x = Edges.pairs(1);
      x.ask(0, -1, 0, 10 + kind, 1);
      for (int wind = 0; wind <= 40; wind++) {
        x.wind(wind);
        due.is("kind " + kind + " in wind " + wind, x.why(0) == 6 ? 1 : 0, wind > bounds[kind] ? 1 : 0);
      }
    }
  }

  private static void link(Due due) {
    for (int link = 0; link < 4; link++) {
      TowField x = new TowField();
      x.person(60, 126);
      x.glider(2, 250, link, 0);
      x.ask(0, -1, 0, 14, 1);
      due.is("there", x.why(0), 0);
      for (int other = 0; other < 4; other++) {
        x.link(other, false);
        due.is("link " + link + " without " + other, x.why(0), other == link ? 7 : 0);
        x.link(other, true);
      }
    }
  }

  private static void inTheAir(Due due) {
    TowField x = Edges.pairs(5);
    x.ask(0, 1, 0, 14, 20);
    x.run(1);
    int[][] crews = {{0, -1, 8}, {1, -1, 8}, {2, 0, 8}, {2, 1, 8}, {0, 2, 8}, {1, 2, 8}, {2, 3, 0}, {4, -1, 0}};
    for (int i = 0; i < crews.length; i++) {
      x.ask(crews[i][0], crews[i][1], 1, 14, 1);
      due.is("who " + crews[i][0] + " along " + crews[i][1], x.why(i + 1), crews[i][2]);
    }
    for (int i = 0; i < crews.length; i++) {
      x.back(i + 1);
    }
    x.ask(1, -1, 1, 14, 1);
    x.run(20);
    due.is("the last MINUTE in the air", x.why(9), 8);
    x.run(1);
    due.is("it went when they came down", x.askIs(9, 7), 21);
  }

  private static void bar(Due due) {
    TowField x = Edges.oneAsk(60);
    due.is("no text", x.why(0), 0);
    String[] bars = {"1", "0 - 1", "4096*4096*128", "9999", "minutes = 60", "kind = 4"};
    for (String text : bars) {
      TowField y = Edges.oneAsk(60);
      Due.text(y, 0, text);
      due.is("barred by " + text, y.why(0), 9);
    }
    String[] free = {"0", "1 / 2", "4096*4096*256", "minutes < 60", "kind / 0"};
    for (String text : free) {
      TowField y = Edges.oneAsk(60);
      Due.text(y, 0, text);
      due.is("not barred by " + text, y.why(0), 0);
    }
    TowField z = Edges.oneAsk(60);
    Due.text(z, 1, "1");
    due.is("a COST bars nothing", z.why(0), 0);
  }

  private static TowField winchField(int kind) {
    TowField x = Edges.pairs(1);
    x.ask(0, -1, 0, 10 + kind, 1);
    x.wind(40);
    x.winch();
    x.winch();
    return x;
  }

  private static int whyInCalm(TowField x) {
    x.wind(0);
    int why = x.why(0);
    x.wind(40);
    return why;
  }

  private static void ropes(Due due) {
    TowField none = Edges.pairs(1);
    none.ask(0, -1, 0, 11, 1);
    none.ask(0, -1, 0, 13, 1);
    due.is("no WINCH at all", none.why(0), 10);
    due.is("no WINCH for a DOUBLE", none.why(1), 10);
    for (int kind = 1; kind <= 3; kind += 2) {
      TowField x = winchField(kind);
      due.is("AT the drum, kind " + kind, whyInCalm(x), 10);
      x.run(3);
      due.is("FETCHED, kind " + kind, whyInCalm(x), 10);
      x.run(1);
      due.is("OUT, kind " + kind, whyInCalm(x), 0);
      x.run(4);
      x.broken(0, 0);
      due.is("one of WINCH 0 BROKEN, kind " + kind, whyInCalm(x), 0);
      x.broken(1, 1);
      due.is("one OUT of each, kind " + kind, whyInCalm(x), kind == 1 ? 0 : 10);
      x.broken(0, 1);
      due.is("only one OUT, kind " + kind, whyInCalm(x), kind == 1 ? 0 : 10);
      x.broken(1, 0);
      due.is("all BROKEN, kind " + kind, whyInCalm(x), 10);
    }
  }

  private static void planes(Due due) {
    for (int kind = 2; kind <= 5; kind++) {
      if (kind != 3) {
        TowField x = Edges.pairs(1);
        x.ask(0, -1, 0, 10 + kind, 1);
        due.is("no PLANE, kind " + kind, x.why(0), kind == 4 ? 0 : 10);
        x.plane();
        due.is("a PLANE, kind " + kind, x.why(0), 0);
      }
    }
    TowField y = Edges.pairs(3);
    y.plane();
    y.ask(0, -1, 0, 52, 60);
    y.ask(1, -1, 1, 12, 1);
    y.ask(2, -1, 2, 14, 60);
    // SPAN 2: the lane is clear from 2 on, the PLANE is AWAY till 4.
    y.run(2);
    due.is("AWAY", y.why(1), 10);
    due.is("SELF needs none", y.why(2), 0);
    y.run(1);
    due.is("the last MINUTE AWAY", y.why(1), 10);
    y.run(1);
    due.is("there again", y.why(1), 0);
    TowField z = Edges.pairs(1);
    z.winch();
    z.wind(40);
    z.run(4);
    z.wind(0);
    z.ask(0, -1, 0, 12, 1);
    due.is("a ROPE tows nobody", z.why(0), 10);
    TowField w = Edges.pairs(1);
    w.plane();
    w.ask(0, -1, 0, 11, 1);
    due.is("a PLANE is no ROPE", w.why(0), 10);
  }

  private static void lane(Due due) {
    TowField x = Edges.pairs(2);
    x.plane();
    x.ask(0, -1, 0, 305, 60);
    x.ask(1, -1, 1, 14, 60);
    x.run(1);
    due.is("the first MINUTE behind", x.why(1), 11);
    x.run(9);
    due.is("the last MINUTE of 11", x.why(1), 11);
    x.run(1);
    due.is("it can", x.why(1), 0);
    x.run(1);
    due.is("it went", x.askIs(1, 7), 11);
  }

  private static void movements(Due due) {
    TowField x = new TowField();
    x.winch();
    due.is("none yet", x.count(13), 0);
    due.is("clear", x.clear(3, 60), 1);
    x.run(1);
    for (int minute = 1; minute < 4; minute++) {
      due.is("there in " + minute, x.count(13), 1);
      due.is("not clear in " + minute, x.clear(3, 1), 0);
      x.run(1);
    }
    due.is("ahead of 4 it ended", x.count(13), 0);
    due.is("clear from 4 on", x.clear(3, 60), 1);
    TowField y = new TowField();
    y.winch();
    y.rule(0, 1);
    y.run(1);
    due.is("one of a single MINUTE is over", y.count(13), 0);
    due.is("and its lane clear", y.clear(3, 1), 1);
  }

  private static void clearLanes(Due due) {
    for (int n = 1; n <= 60; n++) {
      TowField x = new TowField();
      x.winch();
      x.cross(3, 5, true);
      x.run(1);
      due.is("a MOVEMENT now, for " + n, x.clear(3, n), 0);
      due.is("on a LANE that CROSSES, for " + n, x.clear(5, n), 0);
      due.is("on none that CROSSES, for " + n, x.clear(4, n), 1);
      x.run(2);
      due.is("the last MINUTE, for " + n, x.clear(5, n), 0);
      x.run(1);
      due.is("behind it, for " + n, x.clear(5, n), 1);
    }
    TowField y = new TowField();
    y.winch();
    y.cross(3, 5, true);
    y.cross(5, 4, true);
    y.run(1);
    due.is("not by way of another LANE", y.clear(4, 1), 1);
    y.cross(3, 5, false);
    due.is("as they CROSS now", y.clear(5, 1), 1);
  }

  private static void howLongEachHasItsLane(Due due) {
    for (int kind = 1; kind <= 5; kind++) {
      for (int height : new int[] {1, 4, 5, 10, 30}) {
        TowField x = Edges.pairs(1);
        x.plane();
        x.winch();
        x.wind(40);
        x.run(4);
        x.wind(0);
        x.lane(3, 5);
        x.ask(0, -1, 0, 10 * height + kind, 60);
        x.run(1);
        int lane = kind == 1 || kind == 3 ? 0 : 1;
        int span = x.span(kind, height);
        for (int i = 1; i < span; i++) {
          due.is("kind " + kind + " of " + height + " after " + i, x.clear(lane, 1), 0);
          x.run(1);
        }
        due.is("kind " + kind + " of " + height + " after " + span, x.clear(lane, 1), 1);
      }
    }
    TowField y = Edges.oneAsk(2);
    y.run(4);
    due.is("a landing, its second MINUTE", y.clear(2, 1), 0);
    y.run(1);
    due.is("a landing, behind it", y.clear(2, 1), 1);
    for (int fetch : new int[] {2, 19, 20}) {
      TowField z = new TowField();
      z.winch();
      z.rule(0, fetch);
      z.run(fetch - 1);
      due.is("fetching of " + fetch + ", its last MINUTE", z.clear(3, 1), 0);
      z.run(1);
      due.is("fetching of " + fetch + ", behind it", z.clear(3, 1), 1);
    }
  }

  private static void why(Due due) {
    Edges.range(due, "one ask", 0, 0, () -> Edges.oneAsk(1), TowField::why);
    due.is("no ask", Edges.pairs(1).why(0), BEYOND);
    Edges.range(due, "twenty asks", 0, 19, WhyEdges::twenty, TowField::why);
    due.is("it can", Edges.oneAsk(1).why(0), 0);
    TowField x = twenty();
    x.link(3, false);
    for (int ask = 0; ask < 20; ask++) {
      due.is("ask " + ask, x.why(ask), ask % 4 == 3 ? 7 : 0);
    }
  }

  private static TowField twenty() {
    TowField x = Edges.pairs(4);
    for (int i = 0; i < 20; i++) {
      x.ask(i % 4, -1, i % 4, 14, 1);
    }
    return x;
  }

  private static void whyTooLate(Due due) {
    TowField x = Edges.oneAsk(2);
    x.run(1);
    due.is("in the air", x.why(0), Due.STATE);
    x.run(3);
    due.is("down", x.why(0), Due.STATE);
    TowField y = Edges.oneAsk(2);
    y.back(0);
    due.is("gone", y.why(0), Due.STATE);
  }

  private static void clear(Due due) {
    Edges.range(due, "n", 1, 60, TowField::new, (x, v) -> x.clear(0, v));
    Edges.range(due, "n of lane 5", 1, 60, TowField::new, (x, v) -> x.clear(5, v));
    Edges.range(due, "lane", 0, 5, TowField::new, (x, v) -> x.clear(v, 60));
    TowField x = Edges.atMinute(900);
    due.is("in the last MINUTE", x.clear(0, 60), 1);
  }

  private static void next(Due due) {
    due.is("nothing", new TowField().next(), 0);
    TowField x = Edges.pairs(2);
    x.winch();
    x.wind(16);
    x.ask(0, -1, 0, 14, 2);
    due.is("only a winch", x.next(), 3000);
    x.wind(15);
    due.is("an ask ahead of it", x.next(), 2000);
    due.is("asked twice, nothing went", x.next(), 2000);
    x.ask(1, -1, 1, 14, 2);
    x.run(3);
    due.is("a landing ahead of all", x.next(), 1000);
  }
}
