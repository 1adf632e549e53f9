/** Edges of section 5 and of promises 31 to 34: how a minute goes, and what is ahead. */
final class MinuteEdges {
  private static final int BEYOND = Due.BEYOND;

  private MinuteEdges() {}

  static void tell(Sentences doc) {
    doc.says("t5", "A MINUTE goes:", MinuteEdges::inItsOrder);
    doc.says("t5", "(1) LANDINGS: ASKS in the air that are DUE (started SPAN and MINUTES asked for ago, or more;", MinuteEdges::landingsDue);
    doc.says("t5", "SHORT is the least for the latter),", MinuteEdges::shortIsTheLeast);
    doc.says("t5", "by that MINUTE, then numbers:", MinuteEdges::landingsInOrder);
    doc.says("t5", "if the LANE for landings is CLEAR, it is down: a MOVEMENT of 2 MINUTES;", MinuteEdges::landingLane);
    doc.says("t5", "its COST (for MINUTES from the end of its SPAN till now) comes to the BILL of who flies;", MinuteEdges::landingCost);
    doc.says("t5", "LAST of both is now; its GLIDER is in the row.", MinuteEdges::landingEnds);
    doc.says("t5", "(2) A LAUNCH (one at most): the first ASK that waits with WHY 0: in the air; a MOVEMENT of SPAN;", MinuteEdges::launch);
    doc.says("t5", "it uses the ROPE of the least WINCH, then the least ROPE", MinuteEdges::leastRope);
    doc.says("t5", "(DOUBLE: both of the least WINCH): AT the drum then;", MinuteEdges::leastWinchOfBoth);
    doc.says("t5", "or the least PLANE: AWAY for twice SPAN.", MinuteEdges::leastPlane);
    doc.says("t5", "(3) FETCHING: by WINCHES, if a ROPE of it is AT the drum and the LANE for fetching is CLEAR:", MinuteEdges::fetching);
    doc.says("t5", "all its ROPES AT the drum are FETCHED for FETCH MINUTES: a MOVEMENT.", MinuteEdges::fetched);
    doc.says("t5", "(4) The next MINUTE is open: ROPES FETCHED till it are OUT, BROKEN till it are AT the drum, PLANES AWAY till it are there.", MinuteEdges::nextMinute);
    doc.says("t5", "NEXT is what would go first now: 1000 and an ASK that lands, 2000 and an ASK that starts, 3000 and a WINCH that is fetched; 0: nothing.", MinuteEdges::next);
    doc.says("p31", "n MINUTES (1 to 100) go: the open one then. BEYOND: n.", MinuteEdges::run);
    doc.says("p31", "FULL: it would be above 900.", MinuteEdges::runFull);
    doc.says("p32", "What n MINUTES (0 to 200; beyond 900, too) would bring, if nothing more were told:", MinuteEdges::aheadAsItGoes);
    doc.says("p32", "what 0 launches, 1 landings, 2 ASKS in the air then, 3 ASKS that wait then, both as sets.", MinuteEdges::ahead);
    doc.says("p32", "BEYOND.", MinuteEdges::aheadBeyond);
    doc.says("p33", "LATE by a MINUTE (that isn't behind the open one by more than 200, nor ahead of it), as a set.", MinuteEdges::late);
    doc.says("p33", "BEYOND.", MinuteEdges::lateBeyond);
    doc.says("p34", "Numbers of a sheet tell how many launches and landings (10 for each landing) there are in each MINUTE from the open one on (beyond 900, too):", MinuteEdges::check);
    doc.says("p34", "the place of the first that isn't as it would be; how many it has if all are (nothing changes).", MinuteEdges::checkPlace);
    doc.says("p34", "BEYOND: no such sheet. MISSING.", MinuteEdges::checkRefused);
  }

  /** One MINUTE in which a landing makes a launch possible, and that launch a fetching. */
  private static void inItsOrder(Due due) {
    TowField x = Edges.pairs(1);
    x.winch();
    x.ask(0, -1, 0, 14, 4);
    x.ask(0, -1, 0, 11, 60);
    x.run(5);
    due.is("all ropes are out", x.rope(0, 0, 0) + x.rope(0, 1, 0), 4);
    due.is("it would land", x.next(), 1000);
    x.run(1);
    due.is("down in 5", x.askIs(0, 8), 5);
    due.is("launched in 5", x.askIs(1, 7), 5);
    due.is("its rope is fetched from 5 on", x.rope(0, 0, 1), 9);
    due.is("three movements", x.count(13), 3);
  }

  private static void landingsDue(Due due) {
    int[][] edges = {{14, 2, 3}, {14, 60, 61}, {94, 3, 4}, {104, 3, 5}, {304, 60, 66}, {12, 2, 3}, {302, 60, 67}, {15, 2, 7}, {305, 60, 71}};
    for (int[] edge : edges) {
      TowField x = Edges.pairs(1);
      x.plane();
      x.ask(0, -1, 0, edge[0], edge[1]);
      x.run(edge[2]);
      due.is("not ahead of " + edge[2], x.askIs(0, 6), 1);
      due.is("DUE in " + edge[2], x.next(), 1000);
      x.run(1);
      due.is("came down", x.askIs(0, 8), edge[2]);
    }
    TowField x = keptUp(20);
    due.is("or more", x.next(), 1000);
  }

  /** An ask that is due in 3, but fetching keeps the lane for landings till then. */
  private static TowField keptUp(int till) {
    TowField x = Edges.oneAsk(2);
    x.winch();
    x.cross(2, 3, true);
    x.rule(0, till);
    x.run(till);
    return x;
  }

  private static void shortIsTheLeast(Due due) {
    int[][] edges = {{0, 1, 2}, {1, 1, 2}, {2, 1, 3}, {2, 2, 3}, {2, 3, 4}, {20, 1, 21}, {20, 19, 21}, {20, 20, 21}, {20, 21, 22}};
    for (int[] edge : edges) {
      TowField x = Edges.oneAsk(edge[1]);
      x.rule(3, edge[0]);
      x.run(40);
      due.is("SHORT " + edge[0] + " for " + edge[1], x.askIs(0, 8), edge[2]);
    }
  }

  private static void landingsInOrder(Due due) {
    // Started in 0, 1, 2, 3; due in 12, 8, 9, 8; fetching keeps the lane till 20.
    TowField x = Edges.pairs(4);
    x.winch();
    x.cross(2, 3, true);
    x.rule(0, 20);
    int[] minutes = {11, 6, 6, 4};
    for (int i = 0; i < 4; i++) {
      x.ask(i, -1, i, 14, minutes[i]);
    }
    x.run(20);
    due.is("all are in the air", x.count(6), 4);
    int[] order = {1, 3, 2, 0};
    for (int i = 0; i < 4; i++) {
      due.is("landing " + i, x.next(), 1000 + order[i]);
      x.run(2);
      due.is("in its MINUTE", x.askIs(order[i], 8), 20 + 2 * i);
    }
    // Started in 0, 1, 2; due in 8, 9, 10.
    TowField w = Edges.pairs(3);
    w.winch();
    w.cross(2, 3, true);
    w.rule(0, 20);
    for (int i = 0; i < 3; i++) {
      w.ask(i, -1, i, 14, 7);
    }
    w.run(20);
    for (int i = 0; i < 3; i++) {
      due.is("landing by numbers, as they are due", w.next(), 1000 + i);
      w.run(2);
    }
    // SHORT moves the MINUTE in which each is due: 0 in 21, 1 in 22, and so on.
    TowField y = Edges.pairs(4);
    y.rule(3, 20);
    for (int i = 0; i < 4; i++) {
      y.ask(i, -1, i, 14, 4 - i);
    }
    y.run(40);
    for (int i = 0; i < 4; i++) {
      due.is("by SHORT, ask " + i, y.askIs(i, 8), 21 + 2 * i);
    }
    // All twenty numbers: 19 is due ahead of none.
    TowField z = Edges.pairs(2);
    for (int i = 0; i < 18; i++) {
      z.ask(0, -1, 0, 11, 1);
    }
    z.ask(0, -1, 0, 14, 3);
    z.ask(1, -1, 1, 14, 2);
    z.run(4);
    due.is("due in one MINUTE: the least number", z.next(), 1018);
    z.run(2);
    due.is("then the other one", z.next(), 1019);
  }

  private static void landingLane(Due due) {
    TowField x = keptUp(20);
    due.is("not down while its LANE isn't CLEAR", x.askIs(0, 6), 1);
    x.run(1);
    due.is("down when it is", x.askIs(0, 8), 20);
    due.is("its LANE in the second MINUTE", x.clear(2, 1), 0);
    due.is("LANES that CROSS, too", x.clear(3, 1), 0);
    x.run(1);
    due.is("behind it", x.clear(2, 1), 1);
    TowField y = Edges.oneAsk(2);
    y.run(3);
    due.is("no movements", y.count(13), 0);
    y.run(1);
    due.is("one", y.count(13), 1);
    y.run(1);
    due.is("gone", y.count(13), 0);
  }

  private static void landingCost(Due due) {
    TowField x = Edges.pairs(2);
    x.ask(0, 1, 0, 304, 3);
    Due.text(x, 1, "minutes");
    x.run(9);
    due.is("not yet", x.personIs(0, 3), 0);
    x.run(1);
    due.is("SPAN 6, 3 in the air", x.askIs(0, 9), 3);
    due.is("BILL of who flies", x.personIs(0, 3), 3);
    due.is("BILL of who is along", x.personIs(1, 3), 0);
    TowField y = keptUp(20);
    y.run(1);
    due.is("till it came down: 19, not 2", y.askIs(0, 9), 10 + 2 + 19);
    x.ask(0, -1, 0, 14, 2);
    x.run(4);
    due.is("BILLS grow", x.personIs(0, 3), 5);
  }

  private static void landingEnds(Due due) {
    TowField x = Edges.pairs(3);
    x.ask(0, 1, 2, 14, 2);
    x.run(3);
    due.is("in the air", x.personIs(0, 4) + x.personIs(1, 4), 2);
    due.is("not in the row", x.gliderIs(2, 4), 0);
    x.run(1);
    due.is("LAST of who flies", x.personIs(0, 2), 3);
    due.is("LAST of who is along", x.personIs(1, 2), 3);
    due.is("LAST of another one", x.personIs(2, 2), -1);
    due.is("both are down", x.personIs(0, 4) + x.personIs(1, 4), 0);
    due.is("in the row", x.gliderIs(2, 4), 1);
    x.ask(2, 0, 0, 14, 2);
    x.run(4);
    due.is("LAST of 2, who flies", x.personIs(2, 2), 7);
    due.is("LAST of 0, who is along", x.personIs(0, 2), 7);
    due.is("LAST of 1, who isn't", x.personIs(1, 2), 3);
  }

  private static void launch(Due due) {
    TowField x = Edges.pairs(10);
    for (int i = 0; i < 20; i++) {
      x.ask(i % 10, -1, i % 10, i < 9 ? 11 : 14, 60);
    }
    due.is("the first with WHY 0", x.next(), 2009);
    x.run(1);
    due.is("in the air", x.askIs(9, 6), 1);
    due.is("since", x.askIs(9, 7), 0);
    due.is("one at most", x.count(6), 1);
    due.is("its SPAN of 1 is over", x.count(13), 0);
    x.run(9);
    due.is("one a MINUTE", x.count(6), 10);
    due.is("the last of them", x.askIs(18, 7), 9);
    due.is("19 has no glider left", x.why(19), 1);
    // TOW and WINCH have LANES of their own, and yet only one goes.
    TowField y = Edges.pairs(2);
    y.winch();
    y.wind(40);
    y.run(4);
    y.wind(0);
    y.plane();
    y.ask(0, -1, 0, 11, 9);
    y.ask(1, -1, 1, 12, 9);
    y.run(1);
    due.is("only the first", y.count(6), 1);
    due.is("it has its LANE", y.clear(0, 1), 0);
    due.is("the LANE of the other is clear", y.clear(1, 1), 1);
  }

  /** Three winches whose ropes are all out, in MINUTE 12; ropes are fetched no more. */
  private static TowField ropesOut() {
    TowField x = Edges.pairs(8);
    for (int i = 0; i < 3; i++) {
      x.winch();
    }
    x.run(12);
    x.rule(2, 60);
    x.lane(3, 0);
    return x;
  }

  private static void leastRope(Due due) {
    TowField x = ropesOut();
    x.lane(3, 5);
    x.cross(5, 0, true);
    x.rule(0, 20);
    for (int i = 0; i < 3; i++) {
      x.ask(i, -1, i, 11, 60);
    }
    x.run(1);
    due.is("rope 0 of winch 0", x.rope(0, 0, 0), 0);
    due.is("rope 1 of it stays out", x.rope(0, 1, 0), 2);
    x.broken(0, 1);
    x.run(2);
    due.is("then rope 0 of winch 1", x.askIs(1, 7) == 14 ? x.rope(1, 0, 0) : -1, 0);
    due.is("rope 1 of winch 1 stays out", x.rope(1, 1, 0), 2);
    x.broken(1, 1);
    x.broken(2, 0);
    x.run(2);
    due.is("then rope 1 of winch 2", x.askIs(2, 7) == 16 ? x.rope(2, 1, 0) : -1, 0);
    due.is("at the drum, till none", x.rope(2, 1, 1), -1);
  }

  private static void leastWinchOfBoth(Due due) {
    for (int winch = 0; winch < 3; winch++) {
      TowField x = ropesOut();
      for (int i = 0; i < winch; i++) {
        x.broken(i, i % 2);
      }
      x.ask(0, -1, 0, 13, 60);
      x.run(1);
      for (int i = 0; i < 3; i++) {
        due.is("winch " + i + " of least " + winch, x.rope(i, 0, 0) + 10 * x.rope(i, 1, 0), i > winch ? 22 : i == winch ? 0 : i == 0 ? 23 : 32);
      }
      due.is("till none", x.rope(winch, 0, 1) + x.rope(winch, 1, 1), -2);
    }
  }

  private static void leastPlane(Due due) {
    int[][] spans = {{12, 2}, {42, 2}, {52, 4}, {302, 14}, {15, 10}, {305, 22}};
    for (int[] span : spans) {
      TowField x = Edges.pairs(1);
      x.plane();
      x.plane();
      x.run(7);
      x.ask(0, -1, 0, span[0], 1);
      x.run(1);
      due.is("how " + span[0], x.tow(0), 7 + span[1]);
      due.is("not the other one", x.tow(1), -1);
    }
    TowField y = Edges.pairs(4);
    for (int i = 0; i < 3; i++) {
      y.plane();
    }
    for (int i = 0; i < 4; i++) {
      y.ask(i, -1, i, 52, 60);
    }
    // One each 2 MINUTES; AWAY for 4: planes 0, 1, 0, 1.
    y.run(7);
    due.is("plane 0 went twice", y.tow(0), 8);
    due.is("plane 1 went twice", y.tow(1), 10);
    due.is("plane 2 never", y.tow(2), -1);
    TowField z = Edges.oneAsk(2);
    z.plane();
    z.run(1);
    due.is("SELF uses none", z.tow(0), -1);
  }

  private static void fetching(Due due) {
    TowField x = new TowField();
    due.is("no winch", x.next(), 0);
    x.winch();
    x.winch();
    x.winch();
    for (int i = 0; i < 3; i++) {
      due.is("winch " + i, x.next(), 3000 + i);
      x.run(1);
      due.is("not while the LANE isn't CLEAR", x.next(), 0);
      x.run(3);
    }
    due.is("all are out", x.next(), 0);
    x.broken(2, 1);
    due.is("a BROKEN one isn't fetched", x.next(), 0);
    x.run(10);
    due.is("one rope at the drum is enough", x.next(), 3002);
    TowField y = Edges.pairs(1);
    y.ask(0, -1, 0, 304, 60);
    y.cross(1, 3, true);
    y.run(1);
    y.winch();
    due.is("a launch keeps it", y.next(), 0);
    y.run(5);
    due.is("till it ended", y.next(), 3000);
  }

  private static void fetched(Due due) {
    for (int fetch : new int[] {1, 2, 19, 20}) {
      TowField x = new TowField();
      x.winch();
      x.rule(0, fetch);
      x.broken(0, 0);
      x.run(1);
      due.is("a BROKEN one stays", x.rope(0, 0, 0), 3);
      due.is("the other one, FETCH " + fetch, x.rope(0, 1, 1), fetch == 1 ? -1 : fetch);
      due.is("its state", x.rope(0, 1, 0), fetch == 1 ? 2 : 1);
      due.is("a movement", x.count(13), fetch == 1 ? 0 : 1);
    }
    TowField y = new TowField();
    y.winch();
    y.winch();
    y.run(1);
    due.is("both", y.rope(0, 0, 1) + 10 * y.rope(0, 1, 1), 44);
    due.is("of one winch", y.rope(1, 0, 0) + y.rope(1, 1, 0), 0);
  }

  private static void nextMinute(Due due) {
    TowField x = Edges.pairs(1);
    x.winch();
    x.winch();
    x.plane();
    x.ask(0, -1, 0, 12, 60);
    x.broken(1, 0);
    x.rule(2, 1);
    x.broken(1, 1);
    x.run(1);
    due.is("BROKEN till 1 is AT the drum in 1", x.rope(1, 1, 0), 0);
    due.is("its till", x.rope(1, 1, 1), -1);
    due.is("AWAY till 2, in 1", x.tow(0), 2);
    x.run(1);
    due.is("there in 2", x.tow(0), -1);
    x.run(1);
    due.is("FETCHED till 4, in 3", x.rope(0, 0, 0), 1);
    x.run(1);
    due.is("OUT in 4", x.rope(0, 0, 0), 2);
    due.is("its till then", x.rope(0, 0, 1), -1);
    x.run(5);
    due.is("BROKEN till 10, in 9", x.rope(1, 0, 0), 3);
    x.run(1);
    due.is("AT the drum in 10", x.rope(1, 0, 0), 0);
  }

  private static void next(Due due) {
    due.is("nothing", new TowField().next(), 0);
    for (int ask = 0; ask < 20; ask += 19) {
      TowField x = Edges.pairs(2);
      for (int i = 0; i < 20; i++) {
        x.ask(i == ask ? 0 : 1, -1, i == ask ? 0 : 1, i == ask ? 14 : 11, 2);
      }
      due.is("starts", x.next(), 2000 + ask);
      x.run(1);
      due.is("nothing now", x.next(), 0);
      x.run(2);
      due.is("lands", x.next(), 1000 + ask);
    }
    TowField y = new TowField();
    for (int winch = 0; winch < 3; winch++) {
      y.winch();
      due.is("fetched", y.next(), 3000 + winch);
      y.run(4);
    }
    TowField z = Edges.pairs(2);
    z.winch();
    z.ask(0, -1, 0, 14, 2);
    z.run(3);
    z.winch();
    z.ask(1, -1, 1, 14, 2);
    due.is("a landing first", z.next(), 1000);
    z.lane(2, 3);
    due.is("then a launch", z.next(), 2001);
    z.lane(3, 5);
    z.back(1);
    due.is("then fetching", z.next(), 3001);
  }

  private static void run(Due due) {
    Edges.range(due, "n", 1, 100, TowField::new, TowField::run);
    for (int n = 1; n <= 100; n++) {
      due.is("the open one then", new TowField().run(n), n);
    }
    TowField x = Edges.oneAsk(2);
    x.run(4);
    TowField y = Edges.oneAsk(2);
    for (int i = 0; i < 4; i++) {
      y.run(1);
    }
    due.is("four at once or one by one", x.personIs(0, 3), y.personIs(0, 3));
  }

  private static void runFull(Due due) {
    for (int n = 1; n <= 100; n++) {
      due.is("just to 900 by " + n, Edges.atMinute(900 - n).run(n), 900);
      TowField x = Edges.atMinute(901 - n);
      due.is("above 900 by " + n, x.run(n), Due.FULL);
      due.is("nothing went", x.count(10), 901 - n);
    }
    TowField y = Edges.atMinute(900);
    due.is("n is asked first", y.run(0), BEYOND);
    due.is("n is asked first, too", y.run(101), BEYOND);
    due.is("the largest n", y.run(Integer.MAX_VALUE), BEYOND);
    due.is("full", y.run(100), Due.FULL);
  }

  /** A field on which much goes on. */
  private static TowField busy() {
    TowField x = Edges.pairs(6);
    x.winch();
    x.winch();
    x.plane();
    x.cross(0, 3, true);
    x.cross(2, 1, true);
    int[] hows = {14, 11, 52, 13, 305, 104, 21, 12};
    for (int i = 0; i < 16; i++) {
      x.ask(i % 6, i % 4 == 0 ? (i + 1) % 6 : -1, (i * 5) % 6, hows[i % 8], 1 + i % 5);
    }
    Due.text(x, 0, "kind=3&minutes=5");
    Due.text(x, 1, "height*minutes-wind");
    return x;
  }

  /** What ahead tells of n MINUTES is what comes when they go. */
  private static void aheadAsItGoes(Due due) {
    for (int n = 0; n <= 80; n++) {
      TowField x = busy();
      TowField y = busy();
      Edges.goTo(y, n);
      due.is("launches of " + n, x.ahead(n, 0), y.count(6) + y.count(7));
      due.is("landings of " + n, x.ahead(n, 1), y.count(7));
      due.is("in the air after " + n, x.ahead(n, 2), asksThatAre(y, 1));
      due.is("waiting after " + n, x.ahead(n, 3), asksThatAre(y, 0));
      due.is("no MINUTE went", x.count(10), 0);
    }
    for (int open = 1; open <= 40; open++) {
      for (int n = 1; n <= 12; n++) {
        TowField x = busy();
        TowField y = busy();
        x.run(open);
        y.run(open + n);
        int launches = y.count(6) + y.count(7) - x.count(6) - x.count(7);
        due.is("launches of " + n + " in " + open, x.ahead(n, 0), launches);
        due.is("landings of " + n + " in " + open, x.ahead(n, 1), y.count(7) - x.count(7));
        due.is("waiting after " + n + " in " + open, x.ahead(n, 3), asksThatAre(y, 0));
      }
    }
    TowField last = Edges.pairs(1);
    Edges.goTo(last, 900);
    last.ask(0, -1, 0, 304, 60);
    due.is("beyond 900: in the air", last.ahead(66, 2), 1);
    due.is("beyond 900: down in 966", last.ahead(67, 1), 1);
    due.is("beyond 900: 200", last.ahead(200, 0), 1);
    due.is("900 is open yet", last.count(10), 900);
    aheadOfAll(due);
  }

  /** With as much of everything as there can be: rope 1 of winch 2, glider 9, person 13, ask 19 are looked at, too. */
  private static void aheadOfAll(Due due) {
    TowField x = Afternoon.packed();
    due.is("by the last rope", x.ahead(1, 2), 7 + (1 << 18));
    due.is("and the last ask", x.ahead(2, 2), 7 + (3 << 18));
    due.is("late by 15", x.late(15), (1 << 20) - 1 - 7 - (1 << 18));
    due.is("late by 16", x.late(16), (1 << 18) - 1 - 7);
    x.sheet(0, 8, 3);
    x.write(0, 0, 1);
    x.write(0, 1, 1);
    due.is("check", x.check(0), 3);
    x.rule(2, 1);
    x.broken(2, 1);
    due.is("19 goes ahead of 18: the last rope is BROKEN", x.ahead(1, 2), 7 + (1 << 19));
    due.is("no rope is OUT by 16", x.late(16), (1 << 19) - 1 - 7);
    for (int n = 1; n <= 100; n++) {
      TowField y = Afternoon.packed();
      y.rule(2, 1);
      y.broken(2, 1);
      y.run(n);
      due.is("in the air after " + n, x.ahead(n, 2), asksThatAre(y, 1));
      due.is("late by " + (14 + n), x.late(14 + n), asksThatAre(y, 0));
    }
    for (int many = 1; many <= 10; many++) {
      aheadOfLastGlider(due, many);
    }
    for (int lane = 0; lane < 6; lane++) {
      aheadOnLane(due, lane);
    }
  }

  /** What keeps the last glider in the row now does so ahead, too. */
  private static void aheadOfLastGlider(Due due, int many) {
    for (int why = 1; why <= 3; why++) {
      TowField y = new TowField();
      y.person(60, 126);
      y.person(60, 126);
      for (int i = 1; i < many; i++) {
        y.glider(2, 250, 0, 0);
      }
      int last = y.glider(why == 1 ? 1 : 2, why == 2 ? 119 : 120, why == 3 ? 3 : 0, 0);
      y.link(3, false);
      y.ask(0, 1, last, 14, 9);
      due.is("WHY of glider " + last, y.why(0), new int[] {0, 2, 3, 7}[why]);
      due.is("ahead of glider " + last + ", " + why, y.ahead(5, 0), 0);
      due.is("late with glider " + last + ", " + why, y.late(5), 1);
    }
  }

  /** A LANE that CROSSES one with a MOVEMENT isn't CLEAR ahead, either. */
  private static void aheadOnLane(Due due, int lane) {
    for (int other = 0; other < 6; other++) {
      TowField x = Edges.pairs(1);
      x.winch();
      x.rule(0, 20);
      x.lane(3, other);
      x.run(1);
      x.lane(1, lane);
      if (lane != other) {
        x.cross(lane, other, true);
      }
      x.ask(0, -1, 0, 14, 60);
      due.is("on " + lane + " beside " + other, x.ahead(19, 2), 0);
      due.is("on " + lane + " behind " + other, x.ahead(20, 2), 1);
    }
  }

  private static int asksThatAre(TowField x, int state) {
    int set = 0;
    for (int ask = 0; ask < x.count(4); ask++) {
      set |= x.askIs(ask, 6) == state ? 1 << ask : 0;
    }
    return set;
  }

  private static void ahead(Due due) {
    TowField x = Edges.pairs(2);
    for (int i = 0; i < 18; i++) {
      x.ask(0, -1, 0, 11, 1);
    }
    x.ask(0, -1, 0, 14, 2);
    x.ask(1, -1, 1, 14, 2);
    int waiting = (1 << 18) - 1;
    int[][] dues = {
      {0, 0, 0, waiting | 3 << 18}, {1, 0, 1 << 18, waiting | 1 << 19}, {2, 0, 3 << 18, waiting}, {2, 0, 3 << 18, waiting},
      {2, 1, 1 << 19, waiting}, {2, 1, 1 << 19, waiting}, {2, 2, 0, waiting},
    };
    for (int n = 0; n < dues.length; n++) {
      for (int what = 0; what < 4; what++) {
        due.is("n " + n + " what " + what, x.ahead(n, what), dues[n][what]);
      }
    }
    x.run(4);
    due.is("launches from now on", x.ahead(200, 0), 0);
    due.is("landings from now on", x.ahead(200, 1), 1);
    TowField all = Edges.pairs(10);
    for (int i = 0; i < 20; i++) {
      all.ask(i % 10, -1, i % 10, 14, 1);
    }
    due.is("twenty launches", all.ahead(200, 0), 20);
    due.is("twenty landings", all.ahead(200, 1), 20);
    due.is("twenty that wait", all.ahead(0, 3), (1 << 20) - 1);
  }

  private static void aheadBeyond(Due due) {
    for (int what = 0; what < 4; what++) {
      int of = what;
      Edges.range(due, "n, what " + what, 0, 200, () -> Edges.oneAsk(1), (x, v) -> x.ahead(v, of));
    }
    Edges.range(due, "what", 0, 3, TowField::new, (x, v) -> x.ahead(0, v));
    Edges.range(due, "what, of 200", 0, 3, TowField::new, (x, v) -> x.ahead(200, v));
    Edges.range(due, "n in 900", 0, 200, () -> Edges.atMinute(900), (x, v) -> x.ahead(v, 0));
  }

  private static void late(Due due) {
    TowField x = Edges.pairs(10);
    for (int i = 0; i < 20; i++) {
      x.ask(i % 10, -1, i % 10, i < 10 ? 14 : 11, 60);
    }
    for (int minute = 0; minute < 10; minute++) {
      due.is("by " + minute, x.late(minute), (1 << 20) - (2 << minute));
    }
    due.is("by 200", x.late(200), (1 << 20) - (1 << 10));
    x.back(19);
    due.is("one gone is never late", x.late(0), (1 << 19) - 2);
    due.is("no MINUTE went", x.count(10), 0);
    // By the MINUTE in which it would start it isn't late, by the one ahead of that it is.
    TowField y = Edges.pairs(2);
    y.plane();
    y.ask(0, -1, 0, 305, 1);
    y.ask(1, -1, 1, 14, 1);
    due.is("by 10", y.late(10), 2);
    due.is("by 11", y.late(11), 0);
    y.run(10);
    due.is("by 10, in 10", y.late(10), 2);
    due.is("by 11, in 10", y.late(11), 0);
    y.run(1);
    due.is("by 11, in 11", y.late(11), 0);
  }

  private static void lateBeyond(Due due) {
    for (int open : new int[] {0, 1, 100, 899, 900}) {
      Edges.range(due, "open " + open, open, open + 200, () -> Edges.atMinute(open), TowField::late);
    }
  }

  private static void check(Due due) {
    // 0 starts in 0; in 3 it lands and 1 starts; in 6 that lands.
    int[] tells = {1, 0, 0, 11, 0, 0, 10};
    for (int open : new int[] {0, 880, 895, 900}) {
      TowField x = Edges.pairs(1);
      Edges.goTo(x, open);
      x.ask(0, -1, 0, 14, 2);
      x.ask(0, -1, 0, 14, 2);
      for (int bits = 8; bits <= 32; bits *= 2) {
        x.sheet(0, bits, 24);
        for (int i = 0; i < tells.length; i++) {
          due.is("open " + open + ", as far as told", x.check(0), tells[i] == 0 ? nextOf(tells, i) : i);
          x.write(0, i, tells[i]);
        }
        due.is("open " + open + ", all", x.check(0), 24);
      }
    }
  }

  private static int nextOf(int[] tells, int from) {
    int i = from;
    while (tells[i] == 0) {
      i++;
    }
    return i;
  }

  private static void checkPlace(Due due) {
    for (int size = 0; size <= 24; size++) {
      TowField x = Edges.withSheet(3, 8, size);
      due.is("all of " + size, x.check(3), size);
      for (int i = size - 1; i >= 0; i--) {
        x.write(3, i, -128);
        due.is("the first of " + size + " that isn't", x.check(3), i);
      }
    }
    TowField y = Edges.oneAsk(2);
    y.sheet(0, 8, 1);
    due.is("the first", y.check(0), 0);
    y.write(0, 0, 257);
    due.is("by its lowest bits", y.check(0), 1);
    y.write(0, 0, -1);
    due.is("255 is -1", y.check(0), 0);
    due.is("nothing changes", y.count(10) + y.count(6), 0);
  }

  private static void checkRefused(Due due) {
    Edges.range(due, "sheet", 0, 3, MinuteEdges::allSheets, TowField::check);
    for (int s : Edges.around(0, 3)) {
      due.is("sheet " + s, new TowField().check(s), s >= 0 && s <= 3 ? Due.MISSING : BEYOND);
    }
    TowField x = Edges.withSheet(0, 8, 3);
    x.sheet(0, 0, 3);
    due.is("missing again", x.check(0), Due.MISSING);
    due.is("one of 0 numbers isn't missing", Edges.withSheet(0, 8, 0).check(0), 0);
  }

  private static TowField allSheets() {
    TowField x = new TowField();
    for (int s = 0; s < 4; s++) {
      x.sheet(s, 8, 1);
    }
    return x;
  }
}
