/** Promises 31 to 36: minutes that go, what is ahead, and bills. */
public final class MinuteTests {
  private static final Due due = new Due();
  private static final int BEYOND = Due.BEYOND;

  public static void main(String[] args) {
    run();
    landingsInOrder();
    landingsByTheMinuteDue();
    landingWaitsForItsLane();
    shortIsTheLeast();
    oneLaunchAMinute();
    ropesInOrder();
    doubleTakesBoth();
    fetchingInOrder();
    planesInOrder();
    landingFreesForTheSameMinute();
    ahead();
    aheadAsWhy();
    aheadBeyondTheLastMinute();
    late();
    check();
    share();
    pay();
    due.end();
  }

  /** People and gliders in pairs, each of whom may do all. */
  private static TowField field(int many) {
    TowField x = new TowField();
    for (int i = 0; i < many; i++) {
      x.person(60, 126);
      x.glider(2, 200, i % 4, 1 << i);
    }
    return x;
  }

  private static void run() {
    TowField x = new TowField();
    due.is("p31 0", x.run(0), BEYOND);
    due.is("p31 101", x.run(101), BEYOND);
    due.is("p31 -1", x.run(-1), BEYOND);
    due.is("p31 1", x.run(1), 1);
    for (int i = 1; i <= 8; i++) {
      due.is("p31 100", x.run(100), 100 * i + 1);
    }
    due.is("p31 100 are too many", x.run(100), Due.FULL);
    due.is("p31 unchanged", x.count(10), 801);
    due.is("p31 99", x.run(99), 900);
    due.is("p31 full", x.run(1), Due.FULL);
    due.is("p31 beyond is asked first", x.run(101), BEYOND);
  }

  private static void landingsInOrder() {
    TowField x = field(4);
    x.ask(0, -1, 0, 14, 20);
    x.ask(1, -1, 1, 14, 10);
    x.ask(2, -1, 2, 14, 9);
    x.ask(3, -1, 3, 14, 9);
    x.run(4);
    // Due in 21, 12, 12, 13: 1 and 2 in one minute.
    x.run(8);
    due.is("the least number of those due", x.next(), 1001);
    x.run(1);
    due.is("the lane is not clear", x.next(), 0);
    due.is("down in 12", x.askIs(1, 8), 12);
    x.run(1);
    due.is("then who was due first", x.next(), 1002);
    x.run(2);
    due.is("then the last one", x.next(), 1003);
    x.run(20);
    due.is("2 came down", x.askIs(2, 8), 14);
    due.is("3 came down", x.askIs(3, 8), 16);
    due.is("0 came down", x.askIs(0, 8), 21);
  }

  /** Three that are due while the lane is not clear: they go by when they were due, not by numbers. */
  private static void landingsByTheMinuteDue() {
    TowField x = field(4);
    x.winch();
    x.cross(2, 3, true);
    x.rule(0, 20);
    x.ask(0, -1, 0, 14, 12);
    x.ask(1, -1, 1, 14, 9);
    x.ask(2, -1, 2, 14, 7);
    x.ask(3, -1, 3, 14, 7);
    // Due in 13, 11, 10, 11; fetching has the lane till 20.
    x.run(20);
    due.is("due first", x.next(), 1002);
    x.run(2);
    due.is("then the least of those due in 11", x.next(), 1001);
    x.run(2);
    due.is("then the other one", x.next(), 1003);
    x.run(2);
    due.is("then the last", x.next(), 1000);
    TowField y = field(2);
    y.winch();
    y.cross(2, 3, true);
    y.rule(0, 20);
    y.ask(0, -1, 0, 14, 7);
    y.ask(1, -1, 1, 14, 7);
    y.run(20);
    due.is("the first number, if it was due first", y.next(), 1000);
  }

  private static void landingWaitsForItsLane() {
    TowField x = field(2);
    x.ask(0, -1, 0, 14, 3);
    x.run(4);
    x.lane(2, 3);
    x.winch();
    x.rule(0, 6);
    due.is("it would land", x.next(), 1000);
    x.lane(2, 0);
    x.lane(0, 5);
    x.run(1);
    due.is("down in 4", x.askIs(0, 8), 4);
    TowField y = field(2);
    y.winch();
    y.ask(0, -1, 0, 14, 2);
    y.rule(0, 10);
    y.cross(3, 2, true);
    y.run(10);
    due.is("fetching keeps it up", y.askIs(0, 6), 1);
    due.is("now it lands", y.next(), 1000);
    y.run(1);
    due.is("down in 10", y.askIs(0, 8), 10);
    due.is("9 minutes in the air", y.askIs(0, 9), 10 + 2 + 9);
    due.is("a landing has two minutes", y.clear(3, 1), 0);
    y.run(1);
    due.is("no more", y.clear(3, 1), 1);
  }

  private static void shortIsTheLeast() {
    TowField x = field(1);
    x.ask(0, -1, 0, 14, 1);
    x.run(2);
    due.is("not by the minutes asked for", x.next(), 0);
    x.rule(3, 0);
    due.is("short 0: those asked for", x.next(), 1000);
    x.rule(3, 20);
    x.run(19);
    due.is("short 20", x.next(), 1000);
    due.is("not earlier", x.askIs(0, 6), 1);
  }

  private static void oneLaunchAMinute() {
    TowField x = field(4);
    x.plane();
    x.ask(0, -1, 0, 12, 60);
    x.ask(1, -1, 1, 14, 60);
    x.lane(1, 1);
    x.run(1);
    due.is("the first", x.askIs(0, 7), 0);
    due.is("not the second", x.askIs(1, 6), 0);
    due.is("one of them", x.count(6), 1);
    x.run(1);
    due.is("the second", x.askIs(1, 7), 1);
    x.ask(2, -1, 2, 305, 60);
    x.ask(3, -1, 3, 14, 60);
    x.broken(0, 0);
    x.run(1);
    due.is("the first that can", x.askIs(2, 7), 2);
    due.is("not one behind it on its lane", x.why(3), 11);
    due.is("away for twice 11", x.tow(0), 24);
  }

  private static void ropesInOrder() {
    TowField x = field(6);
    x.winch();
    x.winch();
    x.run(8);
    x.broken(0, 0);
    for (int i = 0; i < 4; i++) {
      x.ask(i, -1, i, 11, 60);
    }
    x.lane(3, 5);
    x.cross(5, 0, true);
    x.run(1);
    due.is("rope 1 of winch 0", x.rope(0, 1, 0), 0);
    due.is("rope 0 of winch 1 is out", x.rope(1, 0, 0), 2);
    due.is("on the lane of winches", x.clear(0, 1), 0);
    due.is("for two minutes", x.clear(0, 60), 0);
    x.run(1);
    due.is("waits for its lane", x.askIs(1, 6), 0);
    x.run(1);
    due.is("then rope 0 of winch 1", x.askIs(1, 7), 10);
    due.is("it is at the drum", x.rope(1, 0, 0), 0);
    due.is("rope 1 of winch 1 is out", x.rope(1, 1, 0), 2);
  }

  private static void doubleTakesBoth() {
    TowField x = field(4);
    x.winch();
    x.winch();
    x.winch();
    x.run(12);
    x.broken(0, 1);
    x.lane(3, 5);
    x.cross(5, 0, true);
    x.ask(0, -1, 0, 13, 60);
    x.ask(1, -1, 1, 11, 60);
    x.run(1);
    due.is("not of winch 0", x.rope(0, 0, 0), 2);
    due.is("rope 0 of winch 1", x.rope(1, 0, 0), 0);
    due.is("rope 1 of winch 1", x.rope(1, 1, 0), 0);
    due.is("not of winch 2", x.rope(2, 0, 0), 2);
    x.run(3);
    due.is("four minutes on the lane", x.askIs(1, 6), 0);
    x.run(1);
    due.is("then the other one", x.askIs(1, 7), 16);
    due.is("of winch 0", x.rope(0, 0, 0), 0);
    due.is("at the drum: till none", x.rope(0, 0, 1), -1);
    due.is("at the drum after a double: till none", x.rope(1, 0, 1) + x.rope(1, 1, 1), -2);
    TowField y = field(1);
    y.winch();
    y.run(4);
    y.lane(3, 0);
    y.ask(0, -1, 0, 13, 60);
    y.run(1);
    due.is("both of winch 0", y.rope(0, 0, 0) + y.rope(0, 1, 0), 0);
    due.is("till none", y.rope(0, 0, 1) + y.rope(0, 1, 1), -2);
  }

  private static void fetchingInOrder() {
    TowField x = new TowField();
    x.winch();
    x.winch();
    x.broken(0, 0);
    x.rule(0, 3);
    due.is("the least winch", x.next(), 3000);
    x.run(1);
    due.is("not the broken one", x.rope(0, 0, 0), 3);
    due.is("the other rope", x.rope(0, 1, 1), 3);
    due.is("one winch at a time", x.rope(1, 0, 0), 0);
    x.run(2);
    due.is("out", x.rope(0, 1, 0), 2);
    due.is("then the second", x.next(), 3001);
    x.run(1);
    due.is("both of it", x.rope(1, 0, 1), 6);
    due.is("both of it, too", x.rope(1, 1, 1), 6);
    x.rule(0, 20);
    due.is("a rule changes none that goes on", x.rope(1, 1, 1), 6);
    x.run(7);
    x.run(1);
    due.is("fetched when mended", x.rope(0, 0, 1), 30);
  }

  private static void planesInOrder() {
    TowField x = field(4);
    x.plane();
    x.plane();
    x.rule(3, 0);
    x.ask(0, -1, 0, 12, 60);
    x.ask(1, -1, 1, 12, 60);
    x.ask(2, -1, 2, 12, 60);
    x.run(2);
    due.is("the least", x.tow(0), -1);
    due.is("then the second", x.tow(1), 3);
    x.run(1);
    due.is("the least that is there", x.tow(0), 4);
    due.is("the second is back", x.tow(1), -1);
  }

  private static void landingFreesForTheSameMinute() {
    TowField x = field(1);
    x.ask(0, -1, 0, 14, 2);
    x.ask(0, -1, 0, 14, 2);
    x.run(3);
    due.is("in the air", x.why(1), 1);
    due.is("lands", x.next(), 1000);
    x.run(1);
    due.is("down", x.askIs(0, 8), 3);
    due.is("started behind it in one minute", x.askIs(1, 7), 3);
    TowField y = field(1);
    y.lane(1, 2);
    y.ask(0, -1, 0, 14, 2);
    y.ask(0, -1, 0, 14, 2);
    y.run(4);
    due.is("the landing has the lane", y.askIs(1, 6), 0);
    y.run(2);
    due.is("started then", y.askIs(1, 7), 5);
  }

  private static void ahead() {
    TowField x = field(3);
    x.ask(0, -1, 0, 14, 2);
    x.ask(1, -1, 1, 14, 5);
    x.ask(2, -1, 2, 11, 5);
    int[][] dues = {
      {0, 0, 0, 7}, {1, 0, 1, 6}, {2, 0, 3, 4}, {2, 0, 3, 4}, {2, 1, 2, 4}, {2, 1, 2, 4}, {2, 1, 2, 4}, {2, 1, 2, 4}, {2, 2, 0, 4},
    };
    for (int n = 0; n < dues.length; n++) {
      for (int what = 0; what < 4; what++) {
        due.is("p32 ahead " + n + " " + what, x.ahead(n, what), dues[n][what]);
      }
    }
    due.is("p32 200", x.ahead(200, 1), 2);
    due.is("p32 nothing changes", x.count(10), 0);
    due.is("p32 all wait", x.count(5), 3);
    due.is("p32 n -1", x.ahead(-1, 0), BEYOND);
    due.is("p32 n 201", x.ahead(201, 0), BEYOND);
    due.is("p32 what -1", x.ahead(0, -1), BEYOND);
    due.is("p32 what 4", x.ahead(0, 4), BEYOND);
    TowField y = field(10);
    for (int i = 0; i < 20; i++) {
      y.ask(i % 10, -1, i % 10, 14, 1);
    }
    due.is("p32 twenty wait", y.ahead(0, 3), (1 << 20) - 1);
    due.is("p32 twenty went", y.ahead(200, 0), 20);
    due.is("p32 twenty came down", y.ahead(200, 1), 20);
  }

  /** What is ahead asks WHY as now: seats, weights, links, the bar, the lane of the kind. */
  private static void aheadAsWhy() {
    TowField x = new TowField();
    x.person(80, 126);
    x.person(80, 126);
    x.glider(1, 200, 1, 0);
    x.glider(2, 150, 1, 0);
    x.glider(2, 200, 2, 0);
    x.glider(2, 200, 0, 0);
    x.ask(0, 1, 0, 14, 1);
    x.ask(0, 1, 1, 14, 1);
    x.ask(0, 1, 2, 14, 1);
    x.ask(0, 1, 3, 294, 1);
    x.ask(0, 1, 3, 14, 9);
    x.ask(0, 1, 3, 14, 1);
    x.link(2, false);
    Due.text(x, 0, "height > 28 | minutes > 8 | wind > 5");
    due.is("all but the last wait", x.ahead(200, 3), 31);
    due.is("late are those too", x.late(20), 31);
    x.wind(6);
    due.is("all are barred", x.ahead(200, 3), 63);
    x.wind(0);
    x.winch();
    x.lane(3, 1);
    x.rule(0, 20);
    x.run(1);
    due.is("the lane of tows is not that of winches", x.ahead(19, 0), 0);
    TowField y = field(2);
    y.ask(0, -1, 0, 304, 1);
    y.ask(1, -1, 1, 14, 1);
    y.run(1);
    due.is("six minutes on the lane of tows", y.ahead(5, 0), 0);
    due.is("then it is clear", y.ahead(6, 0), 1);
  }

  private static void aheadBeyondTheLastMinute() {
    TowField x = field(1);
    for (int i = 0; i < 9; i++) {
      x.run(100);
    }
    x.ask(0, -1, 0, 14, 60);
    due.is("p32 in the air at 960", x.ahead(60, 2), 1);
    due.is("p32 down by 963", x.ahead(62, 1), 1);
    due.is("p32 the open one stays", x.count(10), 900);
    due.is("p33 late by 900", x.late(900), 0);
    due.is("p33 late by 1100", x.late(1100), 0);
    due.is("p33 late by 1101", x.late(1101), BEYOND);
    x.sheet(0, 8, 3);
    x.write(0, 0, 1);
    due.is("p34 beyond 900", x.check(0), 3);
  }

  private static void late() {
    TowField x = field(3);
    for (int i = 0; i < 3; i++) {
      x.ask(i, -1, i, 14, 20);
    }
    x.ask(0, -1, 0, 11, 20);
    due.is("p33 by 0", x.late(0), 14);
    due.is("p33 by 1", x.late(1), 12);
    due.is("p33 by 2", x.late(2), 8);
    due.is("p33 by 200", x.late(200), 8);
    due.is("p33 by 201", x.late(201), BEYOND);
    due.is("p33 by -1", x.late(-1), BEYOND);
    x.back(3);
    due.is("p33 one gone isn't late", x.late(2), 0);
    x.run(1);
    due.is("p33 by one ahead", x.late(0), BEYOND);
    due.is("p33 by 1, then", x.late(1), 4);
    due.is("p33 by 201, then", x.late(201), 0);
    due.is("p33 by 202, then", x.late(202), BEYOND);
    due.is("p33 least", x.late(Integer.MIN_VALUE), BEYOND);
    due.is("p33 largest", x.late(Integer.MAX_VALUE), BEYOND);
    due.is("p33 nothing changes", x.count(10), 1);
  }

  private static void check() {
    TowField x = field(2);
    due.is("p34 -1", x.check(-1), BEYOND);
    due.is("p34 4", x.check(4), BEYOND);
    due.is("p34 missing", x.check(3), Due.MISSING);
    x.ask(0, -1, 0, 14, 2);
    x.ask(0, -1, 0, 14, 2);
    x.ask(1, -1, 1, 14, 3);
    x.sheet(3, 16, 0);
    due.is("p34 none", x.check(3), 0);
    x.sheet(3, 32, 24);
    // 0 starts in 0, 2 in 1, 0 lands in 3 when 1 starts, 2 lands in 5, 1 lands in 7 (its lane).
    int[] tells = {1, 1, 0, 11, 0, 10, 0, 10};
    for (int i = 0; i < tells.length; i++) {
      if (tells[i] != 0) {
        due.is("p34 not yet", x.check(3), i);
      }
      x.write(3, i, tells[i]);
    }
    due.is("p34 all", x.check(3), 24);
    x.write(3, 23, 1);
    due.is("p34 the last one", x.check(3), 23);
    x.write(3, 3, 2);
    due.is("p34 the first of two", x.check(3), 3);
    due.is("p34 nothing changes", x.count(10), 0);
    x.sheet(3, 8, 4);
    x.write(3, 0, 1);
    x.write(3, 1, 1);
    x.write(3, 3, 11);
    due.is("p34 four", x.check(3), 4);
    x.write(3, 2, 256);
    due.is("p34 of its lowest bits", x.check(3), 4);
    x.sheet(2, 16, 1);
    x.write(2, 0, -1);
    due.is("p34 with its sign", x.check(2), 0);
  }

  private static void share() {
    TowField x = new TowField();
    for (int i = 0; i < 5; i++) {
      x.person(60, 0);
    }
    due.is("p35 no glider", x.share(0, 1), BEYOND);
    x.glider(1, 100, 0, 1 + 4 + 8);
    x.glider(1, 100, 0, 0);
    due.is("p35 none", x.share(1, 0), Due.NONE);
    due.is("p35 beyond ahead of none", x.share(1, 10000), BEYOND);
    due.is("p35 -1", x.share(0, -1), BEYOND);
    due.is("p35 10000", x.share(0, 10000), BEYOND);
    due.is("p35 glider -1", x.share(-1, 1), BEYOND);
    due.is("p35 glider 2", x.share(2, 1), BEYOND);
    due.is("p35 11", x.share(0, 11), 3);
    expectBills(x, 4, 0, 4, 3, 0);
    due.is("p35 1", x.share(0, 1), 3);
    expectBills(x, 5, 0, 4, 3, 0);
    due.is("p35 0", x.share(0, 0), 3);
    expectBills(x, 5, 0, 4, 3, 0);
    due.is("p35 9999", x.share(0, 9999), 3);
    expectBills(x, 3338, 0, 3337, 3336, 0);
    due.is("p35 together", x.count(12), 10011);
  }

  private static void expectBills(TowField x, int... bills) {
    for (int person = 0; person < bills.length; person++) {
      due.is("bill of " + person, x.personIs(person, 3), bills[person]);
    }
  }

  private static void pay() {
    TowField x = new TowField();
    due.is("p36 nobody", x.pay(0, 1), BEYOND);
    x.person(60, 0);
    x.glider(1, 100, 0, 1);
    due.is("p36 a bill of 0", x.pay(0, 1), Due.STATE);
    x.share(0, 100);
    due.is("p36 0", x.pay(0, 0), BEYOND);
    due.is("p36 100000", x.pay(0, 100000), BEYOND);
    due.is("p36 99999", x.pay(0, 99999), Due.STATE);
    due.is("p36 101", x.pay(0, 101), Due.STATE);
    due.is("p36 1", x.pay(0, 1), 99);
    due.is("p36 -1", x.pay(-1, 1), BEYOND);
    due.is("p36 person 1", x.pay(1, 1), BEYOND);
    due.is("p36 all", x.pay(0, 99), 0);
    for (int i = 0; i < 11; i++) {
      x.share(0, 9999);
    }
    due.is("p36 largest", x.pay(0, 99999), 11 * 9999 - 99999);
  }
}
