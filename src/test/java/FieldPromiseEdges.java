/** Edges of promises 1 to 16: a new object, and the calls of the field. */
final class FieldPromiseEdges {
  private static final int BEYOND = Due.BEYOND;
  private static final int FULL = Due.FULL;

  private FieldPromiseEdges() {}

  static void tell(Sentences doc) {
    doc.says("p1", "MINUTE 0; no GLIDERS, PEOPLE, WINCHES, PLANES, ASKS;", FieldPromiseEdges::nothingThere);
    doc.says("p1", "THE TAPE is empty, no image is kept.", FieldPromiseEdges::nothingKept);
    doc.says("p2", "A new GLIDER; owners: a set of PEOPLE that are there (0: none): its number.", FieldPromiseEdges::newGlider);
    doc.says("p2", "BEYOND: seats, most, link, owners.", FieldPromiseEdges::gliderBeyond);
    doc.says("p2", "FULL.", FieldPromiseEdges::gliderFull);
    doc.says("p3", "A new PERSON; papers: a set of bits 1 to 6: the number.", FieldPromiseEdges::newPerson);
    doc.says("p3", "BEYOND: weight, papers.", FieldPromiseEdges::personBeyond);
    doc.says("p3", "FULL.", FieldPromiseEdges::personFull);
    doc.says("p4", "A new WINCH: its number. FULL.", FieldPromiseEdges::winch);
    doc.says("p5", "A new PLANE: its number. FULL.", FieldPromiseEdges::plane);
    doc.says("p6", "Of a GLIDER: what 0 SEATS, 1 MOST, 2 LINK, 3 OWNERS, 4 1 if it is in the row.", FieldPromiseEdges::gliderIs);
    doc.says("p6", "BEYOND.", FieldPromiseEdges::gliderIsBeyond);
    doc.says("p7", "Of a PERSON: what 0 WEIGHT, 1 PAPERS, 2 LAST, 3 BILL, 4 1 if in the air.", FieldPromiseEdges::personIs);
    doc.says("p7", "BEYOND.", FieldPromiseEdges::personIsBeyond);
    doc.says("p8", "A PERSON gets PAPERS of a kind (1 to 6), or loses them: 1 if that is new, else 0.", FieldPromiseEdges::paper);
    doc.says("p8", "BEYOND.", FieldPromiseEdges::paperBeyond);
    doc.says("p9", "Of a ROPE of a WINCH: what 0 0 AT the drum to 3 BROKEN, 1 till when (FETCHED, BROKEN; else -1).", FieldPromiseEdges::rope);
    doc.says("p9", "BEYOND.", FieldPromiseEdges::ropeBeyond);
    doc.says("p10", "A ROPE that isn't BROKEN breaks: BROKEN for MEND MINUTES", FieldPromiseEdges::breaks);
    doc.says("p10", "(a MOVEMENT of fetching goes on): till when.", FieldPromiseEdges::fetchingGoesOn);
    doc.says("p10", "BEYOND. STATE: it is BROKEN.", FieldPromiseEdges::brokenAlready);
    doc.says("p11", "Till when a PLANE is AWAY (-1: it is there).", FieldPromiseEdges::tow);
    doc.says("p11", "BEYOND.", FieldPromiseEdges::towBeyond);
    doc.says("p12", "Two LANES CROSS, or don't (always both ways): 1 if that is new, else 0.", FieldPromiseEdges::cross);
    doc.says("p12", "BEYOND: also one twice.", FieldPromiseEdges::crossBeyond);
    doc.says("p13", "LANE FOR (0 to 3) becomes a LANE: which it was.", FieldPromiseEdges::lane);
    doc.says("p13", "BEYOND.", FieldPromiseEdges::laneBeyond);
    doc.says("p14", "WIND becomes v: what it was. BEYOND.", FieldPromiseEdges::wind);
    doc.says("p15", "A LINK is there, or not: 1 if that is new, else 0. BEYOND.", FieldPromiseEdges::link);
    doc.says("p16", "A RULE becomes v: what it was. BEYOND.", FieldPromiseEdges::rule);
  }

  private static void nothingThere(Due due) {
    TowField x = new TowField();
    for (int what = 0; what <= 13; what++) {
      due.is("count(" + what + ")", x.count(what), 0);
    }
    due.is("gliderIs", x.gliderIs(0, 0), BEYOND);
    due.is("personIs", x.personIs(0, 0), BEYOND);
    due.is("rope", x.rope(0, 0, 0), BEYOND);
    due.is("tow", x.tow(0), BEYOND);
    due.is("askIs", x.askIs(0, 0), BEYOND);
    due.is("next", x.next(), 0);
    due.is("ahead", x.ahead(200, 0) + x.ahead(200, 1) + x.ahead(200, 2) + x.ahead(200, 3), 0);
    due.is("late", x.late(200), 0);
  }

  private static void nothingKept(Due due) {
    due.is("the tape", new TowField().wipe(), 0);
    due.is("a text of nothing", new TowField().text(0), -1);
    due.is("undo", new TowField().undo(), Due.NONE);
    due.is("tear", new TowField().tear(), 0);
  }

  private static TowField people(int many) {
    TowField x = new TowField();
    for (int i = 0; i < many; i++) {
      x.person(60, 0);
    }
    return x;
  }

  private static void newGlider(Due due) {
    TowField x = people(3);
    due.is("all who are there", x.glider(1, 100, 0, 7), 0);
    due.is("none", x.glider(1, 100, 0, 0), 1);
    due.is("the last of them", x.glider(1, 100, 0, 4), 2);
    due.is("who comes next", x.glider(1, 100, 0, 8), BEYOND);
    x.person(60, 0);
    due.is("now there", x.glider(1, 100, 0, 8), 3);
    int[] owners = {7, 0, 4, 8};
    for (int glider = 0; glider < 4; glider++) {
      due.is("owners", x.gliderIs(glider, 3), owners[glider]);
      due.is("in the row", x.gliderIs(glider, 4), 1);
    }
  }

  private static void gliderBeyond(Due due) {
    Edges.range(due, "seats", 1, 2, () -> people(2), (x, v) -> x.glider(v, 60, 0, 3));
    Edges.range(due, "most", 60, 250, () -> people(2), (x, v) -> x.glider(2, v, 3, 3));
    Edges.range(due, "link", 0, 3, () -> people(2), (x, v) -> x.glider(1, 250, v, 3));
    Edges.range(due, "owners", 0, 3, () -> people(2), (x, v) -> x.glider(1, 250, 0, v));
    Edges.range(due, "owners of nobody", 0, 0, TowField::new, (x, v) -> x.glider(1, 250, 0, v));
    Edges.range(due, "owners of all", 0, 16383, () -> people(14), (x, v) -> x.glider(1, 250, 0, v));
  }

  private static void gliderFull(Due due) {
    TowField x = Edges.pairs(10);
    due.is("full", x.glider(1, 60, 0, 0), FULL);
    due.is("seats are asked first", x.glider(3, 60, 0, 0), BEYOND);
    due.is("most is asked first", x.glider(1, 59, 0, 0), BEYOND);
    due.is("link is asked first", x.glider(1, 60, 4, 0), BEYOND);
    due.is("owners are asked first", x.glider(1, 60, 0, 1024), BEYOND);
    due.is("still ten", x.count(0), 10);
  }

  private static void newPerson(Due due) {
    for (int bit = 0; bit < 32; bit++) {
      TowField x = new TowField();
      due.is("bit " + bit, x.person(60, 1 << bit), bit >= 1 && bit <= 6 ? 0 : BEYOND);
    }
    TowField x = new TowField();
    due.is("none of them", x.person(60, 0), 0);
    due.is("all of them", x.person(60, 126), 1);
    int[] first = {60, 126, -1, 0, 0};
    for (int what = 0; what < 5; what++) {
      due.is("at first " + what, x.personIs(1, what), first[what]);
    }
  }

  private static void personBeyond(Due due) {
    Edges.range(due, "weight", 40, 130, TowField::new, (x, v) -> x.person(v, 126));
    for (int papers : Edges.around(0, 300)) {
      due.is("papers " + papers, new TowField().person(40, papers), (papers & -127) == 0 ? 0 : BEYOND);
    }
  }

  private static void personFull(Due due) {
    TowField x = people(14);
    due.is("full", x.person(60, 0), FULL);
    due.is("weight is asked first", x.person(39, 0), BEYOND);
    due.is("papers are asked first", x.person(60, 1), BEYOND);
    due.is("still 14", x.count(1), 14);
  }

  private static void winch(Due due) {
    TowField x = new TowField();
    for (int i = 0; i < 3; i++) {
      due.is("its number", x.winch(), i);
    }
    due.is("full", x.winch(), FULL);
    due.is("still", x.winch(), FULL);
    due.is("three", x.count(2), 3);
    due.is("no plane by it", x.count(3), 0);
  }

  private static void plane(Due due) {
    TowField x = new TowField();
    for (int i = 0; i < 3; i++) {
      due.is("its number", x.plane(), i);
    }
    due.is("full", x.plane(), FULL);
    due.is("still", x.plane(), FULL);
    due.is("three", x.count(3), 3);
    due.is("no winch by it", x.count(2), 0);
  }

  private static void gliderIs(Due due) {
    TowField x = people(14);
    x.glider(2, 250, 3, 16383);
    x.glider(1, 60, 0, 0);
    int[][] told = {{2, 250, 3, 16383, 1}, {1, 60, 0, 0, 1}};
    for (int glider = 0; glider < 2; glider++) {
      for (int what = 0; what < 5; what++) {
        due.is("glider " + glider + " what " + what, x.gliderIs(glider, what), told[glider][what]);
      }
    }
    TowField y = Edges.pairs(10);
    y.ask(9, -1, 9, 14, 2);
    y.run(1);
    for (int glider = 0; glider < 10; glider++) {
      due.is("in the row " + glider, y.gliderIs(glider, 4), glider == 9 ? 0 : 1);
    }
    y.run(2);
    due.is("not in the row while it is in the air", y.gliderIs(9, 4), 0);
    y.run(1);
    due.is("in the row when it is down", y.gliderIs(9, 4), 1);
  }

  private static void gliderIsBeyond(Due due) {
    Edges.range(due, "what", 0, 4, () -> Edges.pairs(1), (x, v) -> x.gliderIs(0, v));
    Edges.range(due, "one glider", 0, 0, () -> Edges.pairs(1), (x, v) -> x.gliderIs(v, 0));
    Edges.range(due, "ten gliders", 0, 9, () -> Edges.pairs(10), (x, v) -> x.gliderIs(v, 4));
    for (int glider : Edges.around(0, 9)) {
      due.is("no glider " + glider, new TowField().gliderIs(glider, 0), BEYOND);
    }
  }

  private static void personIs(Due due) {
    TowField x = Edges.pairs(10);
    for (int i = 10; i < 14; i++) {
      x.person(130, 2);
    }
    x.ask(9, 13, 9, 14, 2);
    x.run(1);
    for (int person = 0; person < 14; person++) {
      due.is("weight of " + person, x.personIs(person, 0), person < 10 ? 60 : 130);
      due.is("papers of " + person, x.personIs(person, 1), person < 10 ? 126 : 2);
      due.is("last of " + person, x.personIs(person, 2), -1);
      due.is("bill of " + person, x.personIs(person, 3), 0);
      due.is("in the air " + person, x.personIs(person, 4), person == 9 || person == 13 ? 1 : 0);
    }
    x.run(3);
    for (int person = 0; person < 14; person++) {
      boolean flew = person == 9 || person == 13;
      due.is("last of " + person + ", then", x.personIs(person, 2), flew ? 3 : -1);
      due.is("bill of " + person + ", then", x.personIs(person, 3), person == 9 ? 14 : 0);
      due.is("in the air " + person + ", then", x.personIs(person, 4), 0);
    }
  }

  private static void personIsBeyond(Due due) {
    Edges.range(due, "what", 0, 4, () -> people(1), (x, v) -> x.personIs(0, v));
    Edges.range(due, "one person", 0, 0, () -> people(1), (x, v) -> x.personIs(v, 4));
    Edges.range(due, "all people", 0, 13, () -> people(14), (x, v) -> x.personIs(v, 0));
    for (int person : Edges.around(0, 13)) {
      due.is("nobody " + person, new TowField().personIs(person, 0), BEYOND);
    }
  }

  private static void paper(Due due) {
    for (int kind = 1; kind <= 6; kind++) {
      TowField x = people(14);
      due.is("loses what isn't there", x.paper(13, kind, false), 0);
      due.is("gets", x.paper(13, kind, true), 1);
      due.is("gets again", x.paper(13, kind, true), 0);
      due.is("only that", x.personIs(13, 1), 1 << kind);
      due.is("nobody else", x.personIs(12, 1), 0);
      due.is("loses", x.paper(13, kind, false), 1);
      due.is("loses again", x.paper(13, kind, false), 0);
      due.is("nothing is left", x.personIs(13, 1), 0);
    }
  }

  private static void paperBeyond(Due due) {
    Edges.range(due, "kind it gets", 1, 6, () -> people(1), (x, v) -> x.paper(0, v, true));
    Edges.range(due, "kind it loses", 1, 6, () -> people(1), (x, v) -> x.paper(0, v, false));
    Edges.range(due, "one person", 0, 0, () -> people(1), (x, v) -> x.paper(v, 1, true));
    Edges.range(due, "all people", 0, 13, () -> people(14), (x, v) -> x.paper(v, 6, false));
    due.is("nobody", new TowField().paper(0, 1, true), BEYOND);
  }

  private static TowField winches(int many) {
    TowField x = new TowField();
    for (int i = 0; i < many; i++) {
      x.winch();
    }
    return x;
  }

  private static void rope(Due due) {
    TowField x = winches(3);
    x.broken(2, 1);
    x.run(1);
    // Winch 0 is fetched till 4, winch 1 is at the drum yet, rope 1 of winch 2 is broken till 10.
    int[][] told = {{1, 1, 0, 0, 0, 3}, {4, 4, -1, -1, -1, 10}};
    for (int what = 0; what < 2; what++) {
      for (int place = 0; place < 6; place++) {
        due.is("what " + what + " of " + place, x.rope(place / 2, place % 2, what), told[what][place]);
      }
    }
    x.run(3);
    due.is("out", x.rope(0, 0, 0), 2);
    due.is("out till", x.rope(0, 0, 1), -1);
  }

  private static void ropeBeyond(Due due) {
    Edges.range(due, "what", 0, 1, () -> winches(1), (x, v) -> x.rope(0, 0, v));
    Edges.range(due, "rope", 0, 1, () -> winches(1), (x, v) -> x.rope(0, v, 0));
    Edges.range(due, "rope of the last winch", 0, 1, () -> winches(3), (x, v) -> x.rope(2, v, 1));
    Edges.range(due, "one winch", 0, 0, () -> winches(1), (x, v) -> x.rope(v, 1, 0));
    Edges.range(due, "three winches", 0, 2, () -> winches(3), (x, v) -> x.rope(v, 0, 0));
    due.is("no winch", new TowField().rope(0, 0, 0), BEYOND);
  }

  private static void breaks(Due due) {
    TowField x = winches(3);
    due.is("at the drum", x.broken(2, 1), 10);
    x.run(1);
    due.is("fetched", x.broken(0, 0), 11);
    x.run(3);
    due.is("out", x.broken(0, 1), 14);
    due.is("broken", x.rope(0, 1, 0), 3);
    due.is("till", x.rope(0, 1, 1), 14);
    x.rule(2, 1);
    due.is("MEND changes none that is broken", x.rope(0, 1, 1), 14);
    due.is("the least MEND", x.broken(1, 0), 5);
    x.run(1);
    due.is("mended", x.rope(1, 0, 0), 0);
    TowField y = winches(1);
    Edges.goTo(y, 900);
    y.rule(2, 60);
    due.is("beyond the last MINUTE", y.broken(0, 0), 960);
  }

  private static void fetchingGoesOn(Due due) {
    TowField x = winches(1);
    x.run(1);
    due.is("rope 0", x.broken(0, 0), 11);
    due.is("rope 1", x.broken(0, 1), 11);
    due.is("one movement", x.count(13), 1);
    x.run(2);
    due.is("in its last MINUTE", x.clear(3, 1), 0);
    x.run(1);
    due.is("behind it", x.clear(3, 1), 1);
    due.is("no movement", x.count(13), 0);
    due.is("not out by it", x.rope(0, 0, 0), 3);
  }

  private static void brokenAlready(Due due) {
    Edges.range(due, "rope", 0, 1, () -> winches(1), (x, v) -> x.broken(0, v));
    Edges.range(due, "one winch", 0, 0, () -> winches(1), (x, v) -> x.broken(v, 0));
    Edges.range(due, "three winches", 0, 2, () -> winches(3), (x, v) -> x.broken(v, 1));
    due.is("no winch", new TowField().broken(0, 0), BEYOND);
    TowField x = winches(1);
    x.broken(0, 0);
    due.is("is broken", x.broken(0, 0), Due.STATE);
    due.is("till as before", x.rope(0, 0, 1), 10);
    due.is("the other one isn't", x.broken(0, 1), 10);
    x.run(9);
    due.is("in its last MINUTE", x.broken(0, 0), Due.STATE);
    x.run(1);
    due.is("mended it may break", x.broken(0, 0), 20);
  }

  private static void tow(Due due) {
    // RETRIEVE of HEIGHT 30 has the largest SPAN: 11.
    TowField x = Edges.pairs(1);
    x.plane();
    x.ask(0, -1, 0, 305, 1);
    x.run(1);
    due.is("away till 22", x.tow(0), 22);
    x.run(20);
    due.is("the last MINUTE", x.tow(0), 22);
    x.run(1);
    due.is("there", x.tow(0), -1);
  }

  private static TowField planes(int many) {
    TowField x = new TowField();
    for (int i = 0; i < many; i++) {
      x.plane();
    }
    return x;
  }

  private static void towBeyond(Due due) {
    Edges.range(due, "one plane", 0, 0, () -> planes(1), TowField::tow);
    Edges.range(due, "three planes", 0, 2, () -> planes(3), TowField::tow);
    due.is("no plane", new TowField().tow(0), BEYOND);
  }

  private static void cross(Due due) {
    for (int lane = 0; lane < 6; lane++) {
      for (int other = 0; other < 6; other++) {
        if (lane != other) {
          TowField x = new TowField();
          due.is("they don't", x.cross(lane, other, false), 0);
          due.is("new", x.cross(lane, other, true), 1);
          due.is("not new", x.cross(lane, other, true), 0);
          due.is("nor the other way", x.cross(other, lane, true), 0);
          due.is("don't, the other way", x.cross(other, lane, false), 1);
          due.is("don't any more", x.cross(lane, other, false), 0);
        }
      }
    }
  }

  private static void crossBeyond(Due due) {
    for (int lane = 0; lane < 6; lane++) {
      due.is(lane + " twice", new TowField().cross(lane, lane, true), BEYOND);
      due.is(lane + " twice, not", new TowField().cross(lane, lane, false), BEYOND);
      TowField x = new TowField();
      x.cross(lane, lane, false);
      x.winch();
      x.lane(3, lane);
      x.run(1);
      due.is(lane + " crosses itself still", x.clear(lane, 1), 0);
    }
    Edges.range(due, "lane", 0, 4, TowField::new, (x, v) -> x.cross(v, 5, true));
    Edges.range(due, "other", 0, 4, TowField::new, (x, v) -> x.cross(5, v, false));
    due.is("one that is none, twice", new TowField().cross(6, 6, true), BEYOND);
  }

  private static void lane(Due due) {
    for (int what = 0; what < 4; what++) {
      for (int lane = 0; lane < 6; lane++) {
        TowField x = new TowField();
        due.is("which it was", x.lane(what, lane), what);
        due.is("which it is", x.lane(what, 0), lane);
        for (int other = 0; other < 4; other++) {
          due.is("the others stay", x.lane(other, 5), other == what ? 0 : other);
        }
      }
    }
  }

  private static void laneBeyond(Due due) {
    Edges.range(due, "what", 0, 3, TowField::new, (x, v) -> x.lane(v, 0));
    Edges.range(due, "lane", 0, 5, TowField::new, (x, v) -> x.lane(3, v));
  }

  private static void wind(Due due) {
    TowField x = new TowField();
    due.is("0 at first", x.wind(40), 0);
    due.is("41", x.wind(41), BEYOND);
    due.is("-1", x.wind(-1), BEYOND);
    due.is("it was 40", x.wind(0), 40);
    due.is("it was 0", x.wind(0), 0);
  }

  private static void link(Due due) {
    TowField x = new TowField();
    for (int link = 0; link < 4; link++) {
      due.is("there", x.link(link, true), 0);
      due.is("not there", x.link(link, false), 1);
      due.is("still not", x.link(link, false), 0);
    }
    due.is("4", x.link(4, true), BEYOND);
    due.is("-1", x.link(-1, true), BEYOND);
    due.is("32, whose lowest bits are 0", x.link(32, true), BEYOND);
    for (int link = 0; link < 4; link++) {
      due.is("there again", x.link(link, true), 1);
    }
  }

  private static void rule(Due due) {
    Edges.range(due, "which", 0, 3, TowField::new, (x, v) -> x.rule(v, 1));
    int[][] edges = {{1, 20}, {0, 900}, {1, 60}, {0, 20}};
    for (int which = 0; which < 4; which++) {
      TowField x = new TowField();
      x.rule(which, edges[which][0]);
      due.is("below", x.rule(which, edges[which][0] - 1), BEYOND);
      due.is("it was the least", x.rule(which, edges[which][1]), edges[which][0]);
      due.is("above", x.rule(which, edges[which][1] + 1), BEYOND);
      due.is("it was the largest", x.rule(which, edges[which][1]), edges[which][1]);
      for (int other = 0; other < 4; other++) {
        int first = new int[] {4, 0, 10, 2}[other];
        due.is("the others stay", x.rule(other, 1), other == which ? edges[which][1] : first);
      }
    }
  }
}
