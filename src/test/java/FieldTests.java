/** Promises 1 to 18: the field, and the kinds of launches. */
public final class FieldTests {
  private static final Due due = new Due();
  private static final int BEYOND = Due.BEYOND;
  private static final int FULL = Due.FULL;

  public static void main(String[] args) {
    aNewObject();
    glider();
    gliderOwners();
    person();
    winchAndPlane();
    gliderIs();
    personIs();
    paper();
    rope();
    broken();
    brokenWhileFetched();
    tow();
    cross();
    lane();
    wind();
    link();
    rule();
    bound();
    span();
    due.end();
  }

  private static void aNewObject() {
    TowField x = new TowField();
    for (int what = 0; what <= 13; what++) {
      due.is("p1 count(" + what + ")", x.count(what), 0);
    }
    due.is("p1 next", x.next(), 0);
    due.is("p1 force(0)", x.force(0), Due.NONE);
    due.is("p1 force(1)", x.force(1), Due.NONE);
    due.is("p1 undo", x.undo(), Due.NONE);
    due.is("p1 tear", x.tear(), 0);
    due.is("p1 wipe", x.wipe(), 0);
    for (int s = 0; s < 4; s++) {
      due.is("p1 check", x.check(s), Due.MISSING);
    }
    for (int lane = 0; lane < 6; lane++) {
      due.is("p1 clear", x.clear(lane, 60), 1);
    }
  }

  private static void glider() {
    TowField x = new TowField();
    due.is("p2 seats 0", x.glider(0, 100, 0, 0), BEYOND);
    due.is("p2 seats 3", x.glider(3, 100, 0, 0), BEYOND);
    due.is("p2 most 59", x.glider(1, 59, 0, 0), BEYOND);
    due.is("p2 most 251", x.glider(1, 251, 0, 0), BEYOND);
    due.is("p2 link -1", x.glider(1, 100, -1, 0), BEYOND);
    due.is("p2 link 4", x.glider(1, 100, 4, 0), BEYOND);
    due.is("p2 owner 0", x.glider(1, 100, 0, 1), BEYOND);
    due.is("p2 owners -1", x.glider(1, 100, 0, -1), BEYOND);
    due.is("p2 owners least", x.glider(1, 100, 0, Integer.MIN_VALUE), BEYOND);
    due.is("p2 none", x.count(0), 0);
    due.is("p2 least", x.glider(1, 60, 0, 0), 0);
    due.is("p2 largest", x.glider(2, 250, 3, 0), 1);
    for (int i = 2; i < 10; i++) {
      due.is("p2 number", x.glider(1, 100, 1, 0), i);
    }
    due.is("p2 full", x.glider(1, 100, 1, 0), FULL);
    due.is("p2 beyond is asked first", x.glider(1, 100, 1, 1), BEYOND);
    due.is("p2 count", x.count(0), 10);
  }

  private static void gliderOwners() {
    TowField x = new TowField();
    for (int i = 0; i < 13; i++) {
      x.person(80, 0);
    }
    due.is("p2 all 13", x.glider(1, 100, 0, 8191), 0);
    due.is("p2 the 14th", x.glider(1, 100, 0, 8192), BEYOND);
    x.person(80, 0);
    due.is("p2 the 14th there", x.glider(1, 100, 0, 8192), 1);
    due.is("p2 the 15th", x.glider(1, 100, 0, 16384 + 1), BEYOND);
    due.is("p2 owners told", x.gliderIs(0, 3), 8191);
  }

  private static void person() {
    TowField x = new TowField();
    due.is("p3 weight 39", x.person(39, 0), BEYOND);
    due.is("p3 weight 131", x.person(131, 0), BEYOND);
    due.is("p3 papers 1", x.person(80, 1), BEYOND);
    due.is("p3 papers 128", x.person(80, 128), BEYOND);
    due.is("p3 papers 127", x.person(80, 127), BEYOND);
    due.is("p3 papers -2", x.person(80, -2), BEYOND);
    due.is("p3 least", x.person(40, 0), 0);
    due.is("p3 largest", x.person(130, 126), 1);
    for (int i = 2; i < 14; i++) {
      due.is("p3 number", x.person(70, 2), i);
    }
    due.is("p3 full", x.person(70, 2), FULL);
    due.is("p3 beyond is asked first", x.person(70, 1), BEYOND);
    due.is("p3 count", x.count(1), 14);
  }

  private static void winchAndPlane() {
    TowField x = new TowField();
    for (int i = 0; i < 3; i++) {
      due.is("p4 number", x.winch(), i);
      due.is("p5 number", x.plane(), i);
      due.is("p5 there", x.tow(i), -1);
    }
    due.is("p4 full", x.winch(), FULL);
    due.is("p5 full", x.plane(), FULL);
    due.is("p4 count", x.count(2), 3);
    due.is("p5 count", x.count(3), 3);
  }

  private static void gliderIs() {
    TowField x = new TowField();
    due.is("p6 none", x.gliderIs(0, 0), BEYOND);
    x.person(80, 16);
    x.person(80, 0);
    x.glider(2, 200, 3, 2);
    due.is("p6 seats", x.gliderIs(0, 0), 2);
    due.is("p6 most", x.gliderIs(0, 1), 200);
    due.is("p6 link", x.gliderIs(0, 2), 3);
    due.is("p6 owners", x.gliderIs(0, 3), 2);
    due.is("p6 in the row", x.gliderIs(0, 4), 1);
    due.is("p6 what -1", x.gliderIs(0, -1), BEYOND);
    due.is("p6 what 5", x.gliderIs(0, 5), BEYOND);
    due.is("p6 glider -1", x.gliderIs(-1, 0), BEYOND);
    due.is("p6 glider 1", x.gliderIs(1, 0), BEYOND);
    x.ask(0, -1, 0, 14, 2);
    x.run(1);
    due.is("p6 in the air", x.gliderIs(0, 4), 0);
    x.run(3);
    due.is("p6 down again", x.gliderIs(0, 4), 1);
  }

  private static void personIs() {
    TowField x = new TowField();
    due.is("p7 none", x.personIs(0, 0), BEYOND);
    x.person(80, 16);
    x.person(75, 64);
    x.person(76, 64);
    x.glider(2, 200, 3, 2);
    due.is("p7 weight", x.personIs(1, 0), 75);
    due.is("p7 papers", x.personIs(1, 1), 64);
    due.is("p7 last", x.personIs(1, 2), -1);
    due.is("p7 bill", x.personIs(1, 3), 0);
    due.is("p7 on the ground", x.personIs(1, 4), 0);
    due.is("p7 what -1", x.personIs(0, -1), BEYOND);
    due.is("p7 what 5", x.personIs(0, 5), BEYOND);
    due.is("p7 person -1", x.personIs(-1, 0), BEYOND);
    due.is("p7 person 3", x.personIs(3, 0), BEYOND);
    x.ask(0, 1, 0, 14, 2);
    x.run(1);
    due.is("p7 flies", x.personIs(0, 4), 1);
    due.is("p7 along", x.personIs(1, 4), 1);
    due.is("p7 neither", x.personIs(2, 4), 0);
    x.run(3);
    due.is("p7 who flew is down", x.personIs(0, 4), 0);
    due.is("p7 who was along is down", x.personIs(1, 4), 0);
    due.is("p7 last of who flew", x.personIs(0, 2), 3);
    due.is("p7 last of who was along", x.personIs(1, 2), 3);
    due.is("p7 last of neither", x.personIs(2, 2), -1);
    due.is("p7 bill of who flew", x.personIs(0, 3), 14);
    due.is("p7 bill of who was along", x.personIs(1, 3), 0);
  }

  private static void paper() {
    TowField x = new TowField();
    due.is("p8 none", x.paper(0, 1, true), BEYOND);
    x.person(80, 4);
    for (int kind = 1; kind <= 6; kind++) {
      boolean had = kind == 2;
      due.is("p8 gets", x.paper(0, kind, true), had ? 0 : 1);
      due.is("p8 has", x.paper(0, kind, true), 0);
    }
    due.is("p8 all", x.personIs(0, 1), 126);
    for (int kind = 1; kind <= 6; kind++) {
      due.is("p8 loses", x.paper(0, kind, false), 1);
      due.is("p8 has not", x.paper(0, kind, false), 0);
    }
    due.is("p8 none left", x.personIs(0, 1), 0);
    due.is("p8 kind 0", x.paper(0, 0, true), BEYOND);
    due.is("p8 kind 7", x.paper(0, 7, true), BEYOND);
    due.is("p8 kind 32", x.paper(0, 33, true), BEYOND);
    due.is("p8 person -1", x.paper(-1, 1, true), BEYOND);
    due.is("p8 person 1", x.paper(1, 1, true), BEYOND);
    due.is("p8 unchanged", x.personIs(0, 1), 0);
  }

  private static void rope() {
    TowField x = new TowField();
    due.is("p9 none", x.rope(0, 0, 0), BEYOND);
    x.winch();
    for (int rope = 0; rope < 2; rope++) {
      due.is("p9 at the drum", x.rope(0, rope, 0), 0);
      due.is("p9 till", x.rope(0, rope, 1), -1);
    }
    x.run(1);
    due.is("p9 fetched", x.rope(0, 0, 0), 1);
    due.is("p9 fetched too", x.rope(0, 1, 0), 1);
    due.is("p9 till 4", x.rope(0, 0, 1), 4);
    x.run(2);
    due.is("p9 still", x.rope(0, 0, 0), 1);
    x.run(1);
    due.is("p9 out", x.rope(0, 0, 0), 2);
    due.is("p9 out till", x.rope(0, 0, 1), -1);
    due.is("p9 rope -1", x.rope(0, -1, 0), BEYOND);
    due.is("p9 rope 2", x.rope(0, 2, 0), BEYOND);
    due.is("p9 winch -1", x.rope(-1, 0, 0), BEYOND);
    due.is("p9 winch 1", x.rope(1, 0, 0), BEYOND);
    due.is("p9 what -1", x.rope(0, 0, -1), BEYOND);
    due.is("p9 what 2", x.rope(0, 0, 2), BEYOND);
  }

  private static void broken() {
    TowField x = new TowField();
    due.is("p10 none", x.broken(0, 0), BEYOND);
    x.winch();
    due.is("p10 breaks", x.broken(0, 1), 10);
    due.is("p10 is broken", x.rope(0, 1, 0), 3);
    due.is("p10 till", x.rope(0, 1, 1), 10);
    due.is("p10 again", x.broken(0, 1), Due.STATE);
    due.is("p10 rope 2", x.broken(0, 2), BEYOND);
    due.is("p10 rope -1", x.broken(0, -1), BEYOND);
    due.is("p10 winch 1", x.broken(1, 0), BEYOND);
    due.is("p10 winch -1", x.broken(-1, 0), BEYOND);
    x.run(4);
    due.is("p10 the other is out", x.rope(0, 0, 0), 2);
    x.run(5);
    due.is("p10 minute 9", x.rope(0, 1, 0), 3);
    x.run(1);
    due.is("p10 mended at the drum", x.rope(0, 1, 0), 0);
    due.is("p10 mended till", x.rope(0, 1, 1), -1);
    due.is("p10 next", x.next(), 3000);
    x.rule(2, 60);
    due.is("p10 one that is out", x.broken(0, 0), 70);
    x.rule(2, 1);
    due.is("p10 mend 1", x.broken(0, 1), 11);
  }

  private static void brokenWhileFetched() {
    TowField x = new TowField();
    x.winch();
    x.rule(2, 1);
    x.run(1);
    due.is("p10 fetched breaks", x.broken(0, 0), 2);
    due.is("p10 the movement goes on", x.clear(3, 1), 0);
    due.is("p10 one movement", x.count(13), 1);
    x.run(1);
    due.is("p10 mended", x.rope(0, 0, 0), 0);
    due.is("p10 the lane is not clear", x.next(), 0);
    x.run(2);
    due.is("p10 the other one is out", x.rope(0, 1, 0), 2);
    due.is("p10 now it is fetched", x.next(), 3000);
    x.run(1);
    due.is("p10 fetched alone", x.rope(0, 0, 1), 8);
    due.is("p10 the other stays out", x.rope(0, 1, 0), 2);
  }

  private static void tow() {
    TowField x = new TowField();
    due.is("p11 none", x.tow(0), BEYOND);
    x.plane();
    x.plane();
    x.person(80, 36);
    x.person(80, 36);
    x.glider(1, 100, 0, 0);
    x.glider(1, 100, 0, 0);
    x.ask(0, -1, 0, 12, 60);
    x.ask(1, -1, 1, 55, 60);
    x.run(1);
    due.is("p11 away for twice 1", x.tow(0), 2);
    due.is("p11 there", x.tow(1), -1);
    x.run(1);
    due.is("p11 there again", x.tow(0), -1);
    due.is("p11 the other one went", x.tow(1), 13);
    x.run(10);
    due.is("p11 still", x.tow(1), 13);
    x.run(1);
    due.is("p11 back", x.tow(1), -1);
    due.is("p11 -1", x.tow(-1), BEYOND);
    due.is("p11 2", x.tow(2), BEYOND);
  }

  private static void cross() {
    TowField x = new TowField();
    x.winch();
    x.run(1);
    due.is("p12 lane 3 is used", x.clear(3, 1), 0);
    due.is("p12 lane 5", x.clear(5, 1), 1);
    due.is("p12 new", x.cross(5, 3, true), 1);
    due.is("p12 not new", x.cross(5, 3, true), 0);
    due.is("p12 both ways", x.cross(3, 5, true), 0);
    due.is("p12 lane 5 crosses", x.clear(5, 1), 0);
    due.is("p12 lane 4 doesn't", x.clear(4, 1), 1);
    due.is("p12 not any more", x.cross(3, 5, false), 1);
    due.is("p12 both ways not", x.cross(5, 3, false), 0);
    due.is("p12 clear again", x.clear(5, 1), 1);
    due.is("p12 3 crosses itself", x.clear(3, 1), 0);
    due.is("p12 edge", x.cross(0, 5, true), 1);
    for (int lane = 0; lane < 6; lane++) {
      due.is("p12 one twice", x.cross(lane, lane, true), BEYOND);
      due.is("p12 one twice, not", x.cross(lane, lane, false), BEYOND);
    }
    due.is("p12 lane -1", x.cross(-1, 0, true), BEYOND);
    due.is("p12 lane 6", x.cross(6, 0, true), BEYOND);
    due.is("p12 other -1", x.cross(0, -1, true), BEYOND);
    due.is("p12 other 6", x.cross(0, 6, true), BEYOND);
  }

  private static void lane() {
    TowField x = new TowField();
    for (int what = 0; what < 4; what++) {
      due.is("p13 at first", x.lane(what, 5 - what), what);
      due.is("p13 then", x.lane(what, 0), 5 - what);
      due.is("p13 back", x.lane(what, what), 0);
    }
    due.is("p13 what -1", x.lane(-1, 0), BEYOND);
    due.is("p13 what 4", x.lane(4, 0), BEYOND);
    due.is("p13 lane -1", x.lane(0, -1), BEYOND);
    due.is("p13 lane 6", x.lane(0, 6), BEYOND);
    x.winch();
    x.lane(3, 5);
    x.run(1);
    due.is("p13 fetched on 5", x.clear(5, 1), 0);
    due.is("p13 not on 3", x.clear(3, 1), 1);
    x.lane(3, 4);
    due.is("p13 the movement stays where it is", x.clear(5, 1), 0);
    due.is("p13 and is not on 4", x.clear(4, 1), 1);
  }

  private static void wind() {
    TowField x = new TowField();
    due.is("p14 0 at first", x.wind(40), 0);
    due.is("p14 40", x.wind(0), 40);
    due.is("p14 -1", x.wind(-1), BEYOND);
    due.is("p14 41", x.wind(41), BEYOND);
    due.is("p14 unchanged", x.wind(3), 0);
  }

  private static void link() {
    TowField x = new TowField();
    for (int link = 0; link < 4; link++) {
      due.is("p15 there at first", x.link(link, true), 0);
      due.is("p15 new", x.link(link, false), 1);
      due.is("p15 not new", x.link(link, false), 0);
      due.is("p15 there again", x.link(link, true), 1);
    }
    due.is("p15 -1", x.link(-1, true), BEYOND);
    due.is("p15 4", x.link(4, true), BEYOND);
  }

  private static void rule() {
    TowField x = new TowField();
    int[] least = {1, 0, 1, 0};
    int[] most = {20, 900, 60, 20};
    int[] first = {4, 0, 10, 2};
    for (int which = 0; which < 4; which++) {
      due.is("p16 at first", x.rule(which, least[which]), first[which]);
      due.is("p16 least", x.rule(which, most[which]), least[which]);
      due.is("p16 below", x.rule(which, least[which] - 1), BEYOND);
      due.is("p16 above", x.rule(which, most[which] + 1), BEYOND);
      due.is("p16 largest", x.rule(which, first[which]), most[which]);
    }
    due.is("p16 which -1", x.rule(-1, 1), BEYOND);
    due.is("p16 which 4", x.rule(4, 1), BEYOND);
  }

  private static void bound() {
    TowField x = new TowField();
    int[] bounds = {25, 20, 25, 10, 15, 28};
    for (int kind = 0; kind < 6; kind++) {
      due.is("p17 bound", x.bound(kind), bounds[kind]);
    }
    due.is("p17 -1", x.bound(-1), BEYOND);
    due.is("p17 6", x.bound(6), BEYOND);
  }

  private static void span() {
    TowField x = new TowField();
    for (int height = 1; height <= 30; height++) {
      int tow = 1 + height / 5;
      due.is("p18 launch", x.span(0, height), 1);
      due.is("p18 winch", x.span(1, height), 2);
      due.is("p18 tow", x.span(2, height), tow);
      due.is("p18 double", x.span(3, height), 4);
      due.is("p18 self", x.span(4, height), height < 5 ? 1 : tow - 1);
      due.is("p18 retrieve", x.span(5, height), tow + 4);
    }
    due.is("p18 kind -1", x.span(-1, 1), BEYOND);
    due.is("p18 kind 6", x.span(6, 1), BEYOND);
    due.is("p18 height 0", x.span(0, 0), BEYOND);
    due.is("p18 height 31", x.span(0, 31), BEYOND);
  }
}
