/** Fields in the midst of an afternoon, to try calls on. */
final class Afternoon {
  private Afternoon() {}

  /** Asks of all states, ropes and a plane in use, texts in force, an image kept, sheets and a tape that are not empty. */
  static TowField busy() {
    TowField x = Edges.pairs(5);
    x.glider(1, 90, 2, 0);
    x.winch();
    x.winch();
    x.plane();
    x.cross(2, 4, true);
    x.image();
    x.ask(0, 1, 0, 14, 2);
    x.ask(2, -1, 1, 102, 9);
    x.ask(3, -1, 2, 11, 5);
    x.ask(4, -1, 3, 13, 5);
    x.ask(4, -1, 3, 13, 6);
    x.ask(0, -1, 3, 305, 60);
    x.back(4);
    Due.text(x, 0, "height=29");
    Due.text(x, 1, "minutes*3+kind");
    x.share(1, 50);
    x.run(5);
    x.broken(1, 1);
    x.sheet(0, 8, 5);
    x.sheet(1, 16, 5);
    x.sheet(3, 8, 0);
    x.write(1, 3, 7);
    x.write(0, 4, -3);
    Due.feed(x, "7+wind");
    return x;
  }

  /** Everything as often as can be, in MINUTE 900. */
  static TowField full() {
    TowField x = new TowField();
    for (int i = 0; i < 14; i++) {
      x.person(60 + i, 126);
    }
    for (int i = 0; i < 10; i++) {
      x.glider(2, 200, i % 4, i == 9 ? 0 : 3 << i);
    }
    for (int i = 0; i < 3; i++) {
      x.winch();
      x.plane();
    }
    x.image();
    Edges.goTo(x, 895);
    for (int i = 0; i < 20; i++) {
      x.ask(i % 14, -1, i % 10, 11 + 10 * (i % 3) + (i + 3) % 5, 1 + i);
    }
    for (int i = 0; i < 6; i++) {
      x.feed(i % 2 == 0 ? '0' : '1', 1);
      x.text(i % 2);
    }
    x.back(19);
    x.share(0, 501);
    x.run(5);
    for (int s = 0; s < 4; s++) {
      x.sheet(s, 8 << Math.min(s, 2), 24);
      x.write(s, 23, 5);
    }
    Edges.blanks(x, 99);
    x.feed('9', 1);
    return x;
  }

  /**
   * As much of everything as there can be, with the last of each unlike the others: of the ropes only rope 1 of winch 2 is OUT,
   * all planes are AWAY, and asks 18 and 19 are the only ones that can go.
   */
  static TowField packed() {
    TowField x = new TowField();
    for (int i = 0; i < 14; i++) {
      x.person(60 + i, i == 3 ? 0 : 126);
    }
    for (int i = 0; i < 10; i++) {
      x.glider(2, 150 + 10 * i, i % 4, i == 9 ? 16383 : 3 << i);
    }
    for (int i = 0; i < 3; i++) {
      x.winch();
      x.plane();
    }
    x.run(12);
    x.rule(2, 60);
    for (int place = 0; place < 5; place++) {
      x.broken(place / 2, place % 2);
    }
    int[] lanes = {0, 4, 5};
    for (int i = 0; i < 3; i++) {
      x.lane(1, lanes[i]);
      x.ask(i, 4 + i, i, 305, 50 + i);
      x.run(1);
    }
    x.lane(1, 1);
    x.lane(0, 3);
    for (int i = 3; i < 18; i++) {
      // Person 3 has no papers: these wait.
      x.ask(3, -1, 3 + i % 5, 11 + 10 * i, i);
    }
    x.ask(12, -1, 8, 11, 9);
    x.ask(13, 11, 9, 54, 8);
    for (int i = 0; i < 6; i++) {
      Due.text(x, i % 2, i == 4 ? "0" : i == 5 ? "height+700" : "kind*9+" + i);
    }
    x.share(9, 9999);
    return x;
  }
}
