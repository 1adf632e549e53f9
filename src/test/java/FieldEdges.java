/** Edges of section 1: minutes, wind, lanes, gliders, people, winches, planes, links and rules. */
final class FieldEdges {
  private static final int BEYOND = Due.BEYOND;

  private FieldEdges() {}

  static void tell(Sentences doc) {
    doc.says("t1", "MINUTES: the open one is 0 at first, 900 at most.", FieldEdges::minutes);
    doc.says("t1", "WIND 0 to 40 (0 at first).", FieldEdges::wind);
    doc.says("t1", "LANES 0 to 5;", FieldEdges::lanes);
    doc.says("t1", "which ones CROSS is told (none at first; each CROSSES itself).", FieldEdges::crossing);
    doc.says("t1", "There are LANES FOR 0 winch launches, 1 tows (kinds under TOW, too), 2 landings, 3 fetching (0, 1, 2, 3 at first).", FieldEdges::lanesFor);
    doc.says("t1", "GLIDERS 0, 1, .. (at most 10)", FieldEdges::tenGliders);
    doc.says("t1", "have SEATS (1, 2), MOST (60 to 250) that they carry, a LINK (0 to 3),", FieldEdges::whatGlidersHave);
    doc.says("t1", "OWNERS (a set of PEOPLE, or none).", FieldEdges::owners);
    doc.says("t1", "LINKS that are there: a set (15 at first).", FieldEdges::links);
    doc.says("t1", "PEOPLE 0, 1, .. (at most 14)", FieldEdges::fourteenPeople);
    doc.says("t1", "have a WEIGHT (40 to 130) and", FieldEdges::weights);
    doc.says("t1", "PAPERS: a set of kinds of launches (1 to 5), and of 6: a TEACHER.", FieldEdges::papers);
    doc.says("t1", "LAST is the MINUTE in which one came down last (-1: none).", FieldEdges::last);
    doc.says("t1", "WINCHES 0, 1, 2 as they come have ROPES 0, 1:", FieldEdges::threeWinches);
    doc.says("t1", "each AT the drum (0; at first), FETCHED (1) till a MINUTE, OUT (2), or BROKEN (3) till a MINUTE.", FieldEdges::statesOfARope);
    doc.says("t1", "PLANES 0, 1, 2 as they come are there, or AWAY till a MINUTE.", FieldEdges::threePlanes);
    doc.says("t1", "RULES: 0 FETCH how many MINUTES it takes (1 to 20; 4),", FieldEdges::fetch);
    doc.says("t1", "1 RECENT (0 to 900; 0: not asked),", FieldEdges::recent);
    doc.says("t1", "2 MEND of a ROPE (1 to 60; 10),", FieldEdges::mend);
    doc.says("t1", "3 SHORT the least MINUTES in the air (0 to 20; 2).", FieldEdges::shortest);
  }

  private static void minutes(Due due) {
    TowField x = new TowField();
    due.is("at first", x.count(10), 0);
    for (int i = 1; i <= 9; i++) {
      due.is("run(100)", x.run(100), 100 * i);
    }
    due.is("900 is open", x.count(10), 900);
    due.is("901 never is", x.run(1), Due.FULL);
    due.is("900 stays open", x.count(10), 900);
  }

  private static void wind(Due due) {
    due.is("at first", new TowField().wind(0), 0);
    Edges.range(due, "wind", 0, 40, TowField::new, TowField::wind);
    for (int v = 0; v <= 40; v++) {
      TowField x = new TowField();
      x.wind(v);
      due.is("it was", x.wind(0), v);
    }
  }

  private static void lanes(Due due) {
    Edges.range(due, "clear of lane", 0, 5, TowField::new, (x, v) -> x.clear(v, 1));
    Edges.range(due, "lane becomes", 0, 5, TowField::new, (x, v) -> x.lane(2, v));
    Edges.range(due, "cross 0 and", 1, 5, TowField::new, (x, v) -> x.cross(0, v, true));
    Edges.range(due, "cross 5 and", 0, 4, TowField::new, (x, v) -> x.cross(5, v, true));
    Edges.range(due, "cross of 0", 1, 5, TowField::new, (x, v) -> x.cross(v, 0, true));
  }

  /** A field whose lane has a movement: fetching, for the longest that there is. */
  private static TowField fetchingOn(int lane) {
    TowField x = new TowField();
    x.winch();
    x.rule(0, 20);
    x.lane(3, lane);
    x.run(1);
    return x;
  }

  private static void crossing(Due due) {
    for (int lane = 0; lane < 6; lane++) {
      TowField x = fetchingOn(lane);
      for (int other = 0; other < 6; other++) {
        due.is("a movement on " + lane + ", clear " + other, x.clear(other, 1), lane == other ? 0 : 1);
        if (other != lane) {
          due.is("none cross at first", x.cross(lane, other, false), 0);
          due.is("told to cross", x.cross(lane, other, true), 1);
          due.is("clear no more", x.clear(other, 1), 0);
        }
      }
    }
  }

  private static void lanesFor(Due due) {
    for (int what = 0; what < 4; what++) {
      due.is("at first, for " + what, new TowField().lane(what, 5), what);
    }
    int[] laneOfKind = {-1, 0, 1, 0, 1, 1};
    for (int kind = 1; kind <= 5; kind++) {
      TowField x = Edges.pairs(1);
      x.winch();
      x.plane();
      x.run(4);
      x.ask(0, -1, 0, 100 + kind, 1);
      x.run(1);
      due.is("kind " + kind + " went", x.count(6), 1);
      for (int lane = 0; lane < 3; lane++) {
        due.is("kind " + kind + ", clear " + lane, x.clear(lane, 1), lane == laneOfKind[kind] ? 0 : 1);
      }
    }
    TowField x = Edges.oneAsk(2);
    x.run(4);
    due.is("a landing has lane 2", x.clear(2, 1), 0);
    x.winch();
    x.run(1);
    due.is("fetching has lane 3", x.clear(3, 1), 0);
    due.is("and 4 is not used", x.clear(4, 1), 1);
  }

  private static void tenGliders(Due due) {
    TowField x = new TowField();
    for (int i = 0; i < 10; i++) {
      due.is("there are", x.count(0), i);
      due.is("not there yet", x.gliderIs(i, 0), BEYOND);
      due.is("its number", x.glider(1, 100, 0, 0), i);
      due.is("is there", x.gliderIs(i, 0), 1);
    }
    due.is("an eleventh", x.glider(1, 100, 0, 0), Due.FULL);
    due.is("ten", x.count(0), 10);
    due.is("10 is none", x.gliderIs(10, 0), BEYOND);
  }

  private static void whatGlidersHave(Due due) {
    Edges.range(due, "seats", 1, 2, TowField::new, (x, v) -> x.glider(v, 100, 0, 0));
    Edges.range(due, "most", 60, 250, TowField::new, (x, v) -> x.glider(1, v, 0, 0));
    Edges.range(due, "link", 0, 3, TowField::new, (x, v) -> x.glider(1, 100, v, 0));
    int[][] edges = {{1, 60, 0}, {2, 250, 3}, {1, 250, 0}, {2, 60, 3}};
    for (int[] edge : edges) {
      TowField x = new TowField();
      x.glider(edge[0], edge[1], edge[2], 0);
      for (int what = 0; what < 3; what++) {
        due.is("told " + what, x.gliderIs(0, what), edge[what]);
      }
    }
  }

  private static void owners(Due due) {
    for (int people = 0; people <= 14; people++) {
      TowField x = new TowField();
      for (int i = 0; i < people; i++) {
        x.person(60, 0);
      }
      int all = (1 << people) - 1;
      due.is("one who isn't there, of " + people, x.glider(1, 100, 0, 1 << people), BEYOND);
      due.is("among all, of " + people, x.glider(1, 100, 0, all + (1 << people)), BEYOND);
      due.is("the highest bit", x.glider(1, 100, 0, Integer.MIN_VALUE), BEYOND);
      due.is("all bits", x.glider(1, 100, 0, -1), BEYOND);
      due.is("all of " + people, x.glider(1, 100, 0, all), 0);
      due.is("none", x.glider(1, 100, 0, 0), 1);
      due.is("all are told", x.gliderIs(0, 3), all);
      due.is("none is told", x.gliderIs(1, 3), 0);
    }
  }

  private static void links(Due due) {
    Edges.range(due, "link", 0, 3, TowField::new, (x, v) -> x.link(v, true));
    Edges.range(due, "no link", 0, 3, TowField::new, (x, v) -> x.link(v, false));
    for (int link = 0; link < 4; link++) {
      TowField x = new TowField();
      due.is("there at first", x.link(link, true), 0);
      x.link(link, false);
      for (int other = 0; other < 4; other++) {
        due.is("only one is gone", x.link(other, true), other == link ? 1 : 0);
      }
    }
  }

  private static void fourteenPeople(Due due) {
    TowField x = new TowField();
    for (int i = 0; i < 14; i++) {
      due.is("there are", x.count(1), i);
      due.is("not there yet", x.personIs(i, 0), BEYOND);
      due.is("its number", x.person(60, 0), i);
      due.is("is there", x.personIs(i, 0), 60);
    }
    due.is("a fifteenth", x.person(60, 0), Due.FULL);
    due.is("fourteen", x.count(1), 14);
    due.is("14 is none", x.personIs(14, 0), BEYOND);
  }

  private static void weights(Due due) {
    Edges.range(due, "weight", 40, 130, TowField::new, (x, v) -> x.person(v, 0));
    TowField x = new TowField();
    x.person(40, 0);
    x.person(130, 0);
    due.is("the least", x.personIs(0, 0), 40);
    due.is("the largest", x.personIs(1, 0), 130);
  }

  private static void papers(Due due) {
    for (int papers : Edges.around(0, 140)) {
      TowField x = new TowField();
      boolean fine = (papers & ~126) == 0;
      due.is("papers " + papers, x.person(60, papers), fine ? 0 : BEYOND);
      due.is("papers told", x.personIs(0, 1), fine ? papers : BEYOND);
    }
    TowField x = new TowField();
    x.person(60, 0);
    for (int kind = 1; kind <= 6; kind++) {
      x.paper(0, kind, true);
      due.is("bits up to " + kind, x.personIs(0, 1), (2 << kind) - 2);
    }
  }

  private static void last(Due due) {
    TowField x = Edges.oneAsk(2);
    due.is("none", x.personIs(0, 2), -1);
    x.run(3);
    due.is("none in the air", x.personIs(0, 2), -1);
    x.run(1);
    due.is("came down in 3", x.personIs(0, 2), 3);
    x.ask(0, -1, 0, 14, 2);
    x.run(3);
    due.is("the one before, in the air again", x.personIs(0, 2), 3);
    x.run(1);
    due.is("the last one", x.personIs(0, 2), 7);
    // Down in MINUTE 0 there is none: the least launch takes 1 and 1 in the air.
    TowField y = Edges.oneAsk(1);
    y.rule(3, 0);
    y.run(3);
    due.is("the earliest", y.personIs(0, 2), 2);
    TowField z = Edges.pairs(1);
    Edges.goTo(z, 896);
    z.ask(0, -1, 0, 14, 2);
    z.run(4);
    due.is("the latest", z.personIs(0, 2), 899);
  }

  private static void threeWinches(Due due) {
    TowField x = new TowField();
    for (int i = 0; i < 3; i++) {
      due.is("not there yet", x.rope(i, 0, 0), BEYOND);
      due.is("its number", x.winch(), i);
      due.is("rope -1", x.rope(i, -1, 0), BEYOND);
      due.is("rope 0", x.rope(i, 0, 0), 0);
      due.is("rope 1", x.rope(i, 1, 0), 0);
      due.is("rope 2", x.rope(i, 2, 0), BEYOND);
    }
    due.is("a fourth", x.winch(), Due.FULL);
    due.is("three", x.count(2), 3);
    due.is("3 is none", x.rope(3, 0, 0), BEYOND);
  }

  private static void statesOfARope(Due due) {
    TowField x = new TowField();
    x.winch();
    x.rule(2, 1);
    expectRope(due, x, 0, -1);
    x.run(1);
    expectRope(due, x, 1, 4);
    x.run(2);
    expectRope(due, x, 1, 4);
    x.run(1);
    expectRope(due, x, 2, -1);
    x.run(100);
    expectRope(due, x, 2, -1);
    x.broken(0, 0);
    x.broken(0, 1);
    expectRope(due, x, 3, 105);
    x.run(1);
    expectRope(due, x, 0, -1);
  }

  private static void expectRope(Due due, TowField x, int state, int till) {
    for (int rope = 0; rope < 2; rope++) {
      due.is("state of rope " + rope, x.rope(0, rope, 0), state);
      due.is("till of rope " + rope, x.rope(0, rope, 1), till);
    }
  }

  private static void threePlanes(Due due) {
    TowField x = new TowField();
    for (int i = 0; i < 3; i++) {
      due.is("not there yet", x.tow(i), BEYOND);
      due.is("its number", x.plane(), i);
      due.is("is there", x.tow(i), -1);
    }
    due.is("a fourth", x.plane(), Due.FULL);
    due.is("three", x.count(3), 3);
    due.is("3 is none", x.tow(3), BEYOND);
    x.person(60, 4);
    x.glider(1, 60, 0, 0);
    x.ask(0, -1, 0, 12, 1);
    x.run(1);
    due.is("away till 2", x.tow(0), 2);
    x.run(1);
    due.is("there again", x.tow(0), -1);
  }

  private static void rule(Due due, int which, int least, int most, int first) {
    due.is("at first", new TowField().rule(which, least), first);
    Edges.range(due, "rule " + which, least, most, TowField::new, (x, v) -> x.rule(which, v));
    for (int v = least; v <= most; v++) {
      TowField x = new TowField();
      x.rule(which, v);
      due.is("it was", x.rule(which, first), v);
    }
  }

  private static void fetch(Due due) {
    rule(due, 0, 1, 20, 4);
    for (int fetch = 1; fetch <= 20; fetch++) {
      TowField x = new TowField();
      x.winch();
      x.rule(0, fetch);
      x.run(fetch);
      due.is("out", x.rope(0, 0, 0), 2);
      TowField y = new TowField();
      y.winch();
      y.rule(0, fetch);
      if (fetch > 1) {
        y.run(fetch - 1);
      }
      due.is("not one MINUTE earlier", y.rope(0, 0, 0), fetch > 1 ? 1 : 0);
    }
  }

  private static void recent(Due due) {
    rule(due, 1, 0, 900, 0);
    TowField x = Edges.oneAsk(1);
    due.is("not asked", x.why(0), 0);
    x.rule(1, 1);
    due.is("asked", x.why(0), 5);
    x.rule(1, 900);
    due.is("the largest is asked, too", x.why(0), 5);
    x.rule(1, 0);
    due.is("not asked again", x.why(0), 0);
  }

  private static void mend(Due due) {
    rule(due, 2, 1, 60, 10);
    for (int mend : new int[] {1, 2, 59, 60}) {
      TowField x = new TowField();
      x.winch();
      x.cross(3, 2, true);
      x.rule(2, mend);
      due.is("till", x.broken(0, 0), mend);
      if (mend > 1) {
        x.run(mend - 1);
        due.is("not one MINUTE earlier", x.rope(0, 0, 0), 3);
      }
      x.run(1);
      due.is("mended", x.rope(0, 0, 0), 0);
    }
  }

  private static void shortest(Due due) {
    rule(due, 3, 0, 20, 2);
    for (int least = 0; least <= 20; least++) {
      for (int asked = 1; asked <= 21; asked++) {
        TowField x = Edges.oneAsk(asked);
        x.rule(3, least);
        x.run(60);
        due.is("SHORT " + least + ", asked for " + asked, x.askIs(0, 8), 1 + Math.max(least, asked));
      }
    }
  }
}
