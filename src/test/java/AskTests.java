/** Promises 19 to 25: asks, why they can't go, clear lanes and what is next. */
public final class AskTests {
  private static final Due due = new Due();
  private static final int BEYOND = Due.BEYOND;
  private static final int STATE = Due.STATE;

  public static void main(String[] args) {
    ask();
    askIs();
    as();
    back();
    whyByGliderSeatsWeight();
    whyAtTheEdges();
    whyInOrder();
    whyTeacher();
    whyRecent();
    whyWind();
    whyGear();
    whyLane();
    clear();
    next();
    due.end();
  }

  private static void ask() {
    TowField x = new TowField();
    due.is("p19 nobody", x.ask(0, -1, 0, 11, 1), BEYOND);
    x.person(80, 0);
    x.person(80, 0);
    due.is("p19 no glider", x.ask(0, -1, 0, 11, 1), BEYOND);
    x.glider(1, 100, 0, 0);
    due.is("p19 person -1", x.ask(-1, -1, 0, 11, 1), BEYOND);
    due.is("p19 person 2", x.ask(2, -1, 0, 11, 1), BEYOND);
    due.is("p19 with -2", x.ask(0, -2, 0, 11, 1), BEYOND);
    due.is("p19 with 2", x.ask(0, 2, 0, 11, 1), BEYOND);
    due.is("p19 with who flies", x.ask(1, 1, 0, 11, 1), BEYOND);
    due.is("p19 glider -1", x.ask(0, -1, -1, 11, 1), BEYOND);
    due.is("p19 glider 1", x.ask(0, -1, 1, 11, 1), BEYOND);
    int[] hows = {0, 1, 9, 10, 16, 17, 18, 19, 300, 306, 310, 311, -11, -1, Integer.MIN_VALUE, Integer.MAX_VALUE};
    for (int how : hows) {
      due.is("p19 how " + how, x.ask(0, -1, 0, how, 1), BEYOND);
    }
    due.is("p19 minutes 0", x.ask(0, -1, 0, 11, 0), BEYOND);
    due.is("p19 minutes 61", x.ask(0, -1, 0, 11, 61), BEYOND);
    due.is("p19 none", x.count(4), 0);
    due.is("p19 least", x.ask(0, -1, 0, 11, 1), 0);
    due.is("p19 largest", x.ask(1, 0, 0, 305, 60), 1);
    for (int i = 2; i < 20; i++) {
      due.is("p19 number", x.ask(0, -1, 0, 11, 1), i);
    }
    due.is("p19 full", x.ask(0, -1, 0, 11, 1), Due.FULL);
    due.is("p19 beyond is asked first", x.ask(0, -1, 0, 11, 0), BEYOND);
    x.back(0);
    due.is("p19 one gone leaves it full", x.ask(0, -1, 0, 11, 1), Due.FULL);
  }

  private static void askIs() {
    TowField x = new TowField();
    x.person(80, 16);
    x.person(60, 0);
    x.glider(2, 200, 0, 0);
    x.glider(2, 200, 0, 0);
    due.is("p20 none", x.askIs(0, 0), BEYOND);
    x.run(3);
    x.ask(0, 1, 1, 254, 7);
    x.ask(0, -1, 0, 14, 7);
    int[] waits = {0, 1, 1, 4, 25, 7, 0, -1, -1, -1};
    expectAsk(x, "p20 waits", waits);
    x.run(1);
    int[] flies = {0, 1, 1, 4, 25, 7, 1, 3, -1, -1};
    expectAsk(x, "p20 flies", flies);
    x.run(11);
    expectAsk(x, "p20 flies yet", flies);
    x.run(1);
    // SPAN 5, 7 MINUTES: due in 15; 10 * 5 + 2 * 25 + 7.
    int[] down = {0, 1, 1, 4, 25, 7, 2, 3, 15, 107};
    expectAsk(x, "p20 down", down);
    due.is("p20 nobody along", x.askIs(1, 1), -1);
    due.is("p20 what -1", x.askIs(0, -1), BEYOND);
    due.is("p20 what 10", x.askIs(0, 10), BEYOND);
    due.is("p20 ask -1", x.askIs(-1, 0), BEYOND);
    due.is("p20 ask 2", x.askIs(2, 0), BEYOND);
  }

  private static void expectAsk(TowField x, String what, int[] dues) {
    for (int i = 0; i < dues.length; i++) {
      due.is(what + " " + i, x.askIs(0, i), dues[i]);
    }
  }

  private static void as() {
    TowField x = new TowField();
    x.person(80, 0);
    x.glider(1, 100, 0, 0);
    for (int kind = 1; kind <= 5; kind++) {
      x.ask(0, -1, 0, 10 + kind, 1);
    }
    // Row: the kind of the ask; column: the kind it is taken as.
    int[][] is = {
      {1, 1, 0, 0, 0, 0}, {1, 0, 1, 0, 0, 0}, {1, 1, 0, 1, 0, 0}, {1, 0, 1, 0, 1, 0}, {1, 0, 1, 0, 0, 1},
    };
    for (int ask = 0; ask < 5; ask++) {
      for (int kind = 0; kind < 6; kind++) {
        due.is("p21 as " + ask + " " + kind, x.as(ask, kind), is[ask][kind] == 1 ? ask : Due.KIND);
      }
    }
    due.is("p21 kind -1", x.as(0, -1), BEYOND);
    due.is("p21 kind 6", x.as(0, 6), BEYOND);
    due.is("p21 ask -1", x.as(-1, 0), BEYOND);
    due.is("p21 ask 5", x.as(5, 0), BEYOND);
  }

  private static void back() {
    TowField x = new TowField();
    x.person(80, 16);
    x.glider(1, 100, 0, 0);
    due.is("p22 none", x.back(0), BEYOND);
    x.ask(0, -1, 0, 14, 2);
    x.ask(0, -1, 0, 14, 2);
    due.is("p22 gone", x.back(1), 1);
    due.is("p22 is gone", x.askIs(1, 6), 3);
    due.is("p22 gone already", x.back(1), STATE);
    x.run(1);
    due.is("p22 in the air", x.back(0), STATE);
    x.run(3);
    due.is("p22 down", x.back(0), STATE);
    x.run(20);
    due.is("p22 one gone never starts", x.askIs(1, 6), 3);
    due.is("p22 -1", x.back(-1), BEYOND);
    due.is("p22 2", x.back(2), BEYOND);
  }

  private static void whyByGliderSeatsWeight() {
    TowField x = new TowField();
    due.is("p23 none", x.why(0), BEYOND);
    x.person(80, 18);
    x.person(60, 0);
    x.person(130, 0);
    x.glider(1, 139, 0, 0);
    x.glider(2, 140, 0, 0);
    x.glider(2, 139, 0, 0);
    x.ask(0, -1, 0, 14, 60);
    x.ask(0, 1, 0, 14, 1);
    x.ask(0, 1, 1, 14, 1);
    x.ask(0, 1, 2, 14, 1);
    x.ask(2, 0, 2, 14, 1);
    due.is("p23 can", x.why(0), 0);
    due.is("p23 2 ahead of 3", x.why(1), 2);
    due.is("p23 just MOST", x.why(2), 0);
    due.is("p23 above MOST", x.why(3), 3);
    due.is("p23 3 ahead of 4", x.why(4), 3);
    due.is("p23 -1", x.why(-1), BEYOND);
    due.is("p23 5", x.why(5), BEYOND);
    x.run(1);
    due.is("p23 1 ahead of 2", x.why(1), 1);
    due.is("p23 doesn't wait", x.why(0), STATE);
    x.back(4);
    due.is("p23 gone", x.why(4), STATE);
  }

  /** Weights that are just MOST, and person 0 along. */
  private static void whyAtTheEdges() {
    TowField x = new TowField();
    x.person(61, 16);
    x.person(60, 16);
    x.glider(1, 60, 0, 0);
    x.glider(2, 121, 0, 0);
    x.glider(2, 120, 0, 0);
    x.ask(1, -1, 0, 14, 1);
    x.ask(0, -1, 0, 14, 1);
    x.ask(1, 0, 0, 14, 1);
    x.ask(1, 0, 1, 14, 1);
    x.ask(1, 0, 2, 14, 1);
    expectWhy(x, "p23 edges", 0, 3, 2, 0, 3);
    x.back(0);
    x.back(1);
    x.back(2);
    x.run(1);
    due.is("p23 person 0 is along", x.personIs(0, 4), 1);
    x.ask(0, -1, 0, 14, 1);
    due.is("p23 who flies is along elsewhere, and too heavy", x.why(5), 3);
    x.ask(0, -1, 2, 14, 1);
    due.is("p23 who flies is along elsewhere", x.why(6), 8);
    x.back(6);
    x.run(9);
    due.is("p23 person 0 came down", x.personIs(0, 2), 3);
  }

  /** One ask that all of 4 to 11 keep from going; they are taken away one by one. */
  private static void whyInOrder() {
    TowField x = new TowField();
    x.person(80, 16);
    x.person(70, 0);
    x.glider(2, 200, 0, 0);
    x.glider(2, 200, 2, 0);
    x.ask(0, -1, 0, 54, 3);
    x.ask(0, 1, 1, 61, 10);
    x.run(1);
    x.lane(0, 1);
    x.ask(1, -1, 1, 54, 3);
    x.rule(1, 5);
    x.wind(21);
    x.link(2, false);
    Due.text(x, 0, "minutes > 9");
    due.is("p23 papers", x.why(1), 4);
    x.paper(0, 1, true);
    due.is("p23 recent", x.why(1), 5);
    x.rule(1, 0);
    due.is("p23 wind", x.why(1), 6);
    x.wind(20);
    due.is("p23 link", x.why(1), 7);
    x.link(2, true);
    due.is("p23 in the air", x.why(1), 8);
    x.run(4);
    due.is("p23 down", x.askIs(0, 6), 2);
    due.is("p23 bar", x.why(1), 9);
    Due.text(x, 0, "minutes > 10");
    due.is("p23 rope", x.why(1), 10);
    x.winch();
    x.run(3);
    due.is("p23 rope yet", x.why(1), 10);
    x.run(1);
    x.lane(0, 3);
    due.is("p23 can", x.why(1), 0);
    x.cross(2, 3, true);
    x.winch();
    x.run(1);
    due.is("p23 it went", x.askIs(1, 6), 1);
  }

  private static void whyTeacher() {
    TowField x = new TowField();
    x.person(60, 0);
    x.person(60, 64 + 16);
    x.person(60, 64 + 8 + 4);
    x.person(60, 16);
    x.person(60, 4 + 2 + 8 + 32);
    x.glider(2, 200, 0, 0);
    x.ask(0, 1, 0, 14, 1);
    x.ask(0, 2, 0, 14, 1);
    x.ask(0, 3, 0, 14, 1);
    x.ask(3, 0, 0, 14, 1);
    x.ask(1, 0, 0, 14, 1);
    x.ask(4, -1, 0, 14, 1);
    due.is("p23 a teacher who has them", x.why(0), 0);
    due.is("p23 a teacher who has others", x.why(1), 4);
    due.is("p23 no teacher, though with papers", x.why(2), 4);
    due.is("p23 one's own", x.why(3), 0);
    due.is("p23 a teacher's own", x.why(4), 0);
    due.is("p23 papers of the kinds beside and above", x.why(5), 4);
    x.paper(1, 6, false);
    due.is("p23 not a teacher any more", x.why(0), 4);
  }

  private static void whyRecent() {
    TowField x = new TowField();
    x.person(60, 16);
    x.person(60, 64);
    x.person(60, 16);
    x.glider(2, 200, 0, 0);
    x.ask(0, -1, 0, 14, 2);
    x.run(4);
    due.is("p23 down in 3", x.personIs(0, 2), 3);
    x.ask(0, -1, 0, 14, 2);
    x.ask(0, 1, 0, 14, 2);
    x.ask(0, 2, 0, 14, 2);
    x.ask(2, -1, 0, 14, 2);
    x.ask(2, 1, 0, 14, 2);
    x.wind(40);
    x.run(4);
    x.rule(1, 5);
    due.is("p23 5 ago", x.why(1), 6);
    due.is("p23 never", x.why(4), 5);
    due.is("p23 never, a teacher along", x.why(5), 6);
    x.rule(1, 4);
    due.is("p23 more than 4 ago", x.why(1), 5);
    due.is("p23 more than 4 ago, a teacher along", x.why(2), 6);
    due.is("p23 more than 4 ago, no teacher along", x.why(3), 5);
    x.rule(1, 900);
    due.is("p23 never, 900", x.why(4), 5);
    x.rule(1, 0);
    due.is("p23 not asked", x.why(4), 6);
  }

  private static void whyWind() {
    TowField x = new TowField();
    x.person(60, 126);
    x.glider(2, 200, 0, 0);
    x.winch();
    x.plane();
    x.lane(3, 5);
    for (int kind = 1; kind <= 5; kind++) {
      x.ask(0, -1, 0, 10 + kind, 1);
    }
    x.wind(40);
    x.run(4);
    for (int kind = 1; kind <= 5; kind++) {
      x.wind(x.bound(kind));
      due.is("p23 wind at the bound", x.why(kind - 1), 0);
      x.wind(x.bound(kind) + 1);
      due.is("p23 wind above the bound", x.why(kind - 1), 6);
    }
  }

  private static void whyGear() {
    TowField x = new TowField();
    x.person(60, 126);
    x.glider(2, 200, 0, 0);
    for (int kind = 1; kind <= 5; kind++) {
      x.ask(0, -1, 0, 10 + kind, 1);
    }
    expectWhy(x, "p23 nothing there", 10, 10, 10, 0, 10);
    x.plane();
    expectWhy(x, "p23 a plane", 10, 0, 10, 0, 0);
    x.winch();
    x.winch();
    expectWhy(x, "p23 ropes at the drum", 10, 0, 10, 0, 0);
    x.wind(40);
    x.broken(0, 0);
    x.broken(1, 1);
    x.run(8);
    x.wind(0);
    expectWhy(x, "p23 one of each winch", 0, 0, 10, 0, 0);
    x.wind(40);
    x.run(20);
    x.wind(0);
    expectWhy(x, "p23 both", 0, 0, 0, 0, 0);
    x.broken(0, 1);
    expectWhy(x, "p23 both of the other one", 0, 0, 0, 0, 0);
    x.broken(1, 0);
    expectWhy(x, "p23 one each again", 0, 0, 10, 0, 0);
  }

  private static void expectWhy(TowField x, String what, int... dues) {
    for (int ask = 0; ask < dues.length; ask++) {
      due.is(what + ", ask " + ask, x.why(ask), dues[ask]);
    }
  }

  private static void whyLane() {
    TowField x = new TowField();
    for (int i = 0; i < 4; i++) {
      x.person(60, 126);
      x.glider(2, 200, 0, 0);
    }
    x.plane();
    x.plane();
    x.ask(0, -1, 0, 305, 1);
    x.ask(1, -1, 1, 302, 1);
    x.ask(2, -1, 2, 14, 1);
    x.run(1);
    due.is("p23 tow on the lane of tows", x.why(1), 11);
    due.is("p23 self on the lane of tows", x.why(2), 11);
    due.is("p23 lane 1", x.clear(1, 1), 0);
    x.lane(1, 4);
    due.is("p23 another lane", x.why(1), 0);
    x.cross(4, 1, true);
    due.is("p23 that crosses", x.why(1), 11);
    x.run(9);
    due.is("p23 ten of eleven minutes", x.why(1), 11);
    x.run(1);
    due.is("p23 clear now", x.why(1), 0);
    x.winch();
    x.lane(0, 3);
    x.ask(3, -1, 3, 11, 1);
    x.ask(3, -1, 3, 13, 1);
    x.run(4);
    x.broken(0, 1);
    due.is("p23 the lane of winches is not that of tows", x.why(3), 0);
    x.wind(40);
    x.run(11);
    due.is("p23 fetched", x.rope(0, 1, 0), 1);
    x.wind(0);
    due.is("p23 winch on the lane of fetching", x.why(3), 11);
  }

  private static void clear() {
    TowField x = new TowField();
    x.winch();
    x.run(1);
    due.is("p24 1", x.clear(3, 1), 0);
    due.is("p24 60", x.clear(3, 60), 0);
    due.is("p24 another", x.clear(2, 60), 1);
    x.run(2);
    due.is("p24 the last minute", x.clear(3, 1), 0);
    x.run(1);
    due.is("p24 behind it", x.clear(3, 60), 1);
    due.is("p24 lane -1", x.clear(-1, 1), BEYOND);
    due.is("p24 lane 6", x.clear(6, 1), BEYOND);
    due.is("p24 n 0", x.clear(0, 0), BEYOND);
    due.is("p24 n 61", x.clear(0, 61), BEYOND);
  }

  private static void next() {
    TowField x = new TowField();
    due.is("p25 nothing", x.next(), 0);
    x.winch();
    x.winch();
    due.is("p25 a winch", x.next(), 3000);
    x.person(80, 16);
    x.person(80, 16);
    x.glider(1, 100, 0, 0);
    x.glider(1, 100, 0, 0);
    x.ask(0, -1, 0, 11, 2);
    x.ask(0, -1, 0, 14, 2);
    x.ask(1, -1, 1, 14, 2);
    due.is("p25 the first ask that can", x.next(), 2001);
    x.run(1);
    due.is("p25 a second one", x.next(), 2002);
    x.run(2);
    due.is("p25 a landing", x.next(), 1001);
    x.lane(2, 3);
    due.is("p25 not clear for landing", x.next(), 0);
    x.lane(3, 5);
    due.is("p25 the second winch", x.next(), 3001);
    x.lane(3, 3);
    x.lane(2, 2);
    due.is("p25 the landing again", x.next(), 1001);
    x.run(1);
    due.is("p25 behind a landing", x.next(), 3001);
    x.run(1);
    due.is("p25 the other landing", x.next(), 1002);
  }
}
