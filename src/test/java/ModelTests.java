import java.util.Random;

/** Long runs of calls, by a fixed seed, on the program and on the model: all answers are the same. */
public final class ModelTests {
  private static final int RUNS = 150;
  private static final int CALLS = 512;

  private static final Due due = new Due();

  public static void main(String[] args) {
    for (int run = 0; run < RUNS && !due.isWrong(); run++) {
      new ModelTests(run).go();
    }
    for (int i = 0; i < 40000; i++) {
      formula(new Random(1000000 + i));
    }
    due.end();
  }

  private final int number;
  private final Random random;
  private final int wildness;
  private final TowField x = new TowField();
  private final Model m = new Model();

  private ModelTests(int run) {
    number = run;
    random = new Random(run);
    wildness = new int[] {3, 15, 60}[run % 3];
  }

  private static void formula(Random random) {
    TowField x = new TowField();
    String text = Writer.text(random, 8);
    int fault = Formula.fault(text);
    int got = Due.text(x, 0, text);
    due.is("fault of '" + text + "'", got, fault < 0 ? 0 : -1 - fault);
    if (got == 0 && fault < 0) {
      int height = random.nextInt();
      int minutes = random.nextInt(9) - 4;
      x.wind(7);
      due.is("value of '" + text + "'", x.says(0, height, minutes, 3), Formula.value(text, height, minutes, 3, 7));
    }
  }

  private void go() {
    build();
    for (int i = 0; i < CALLS && !due.isWrong(); i++) {
      call(random.nextInt(100));
    }
    all();
  }

  private void same(String what, int got, int want) {
    due.is("run " + number + ": " + what, got, want);
  }

  /** A number of a range, seldom one beyond it. */
  private int in(int least, int most) {
    int dice = random.nextInt(8 * wildness);
    if (dice == 0) {
      return least - 1;
    }
    if (dice == 1) {
      return most + 1;
    }
    if (dice == 2) {
      return random.nextInt();
    }
    if (dice == 3) {
      return least;
    }
    if (dice == 4 || most < least) {
      return most;
    }
    return least + random.nextInt(most - least + 1);
  }

  private void build() {
    int many = 2 + random.nextInt(8);
    for (int i = 0; i < many; i++) {
      person();
      glider();
    }
    for (int i = random.nextInt(4); i > 0; i--) {
      same("winch", x.winch(), m.winch());
    }
    for (int i = random.nextInt(4); i > 0; i--) {
      same("plane", x.plane(), m.plane());
    }
    for (int i = random.nextInt(20); i > 0; i--) {
      ask();
    }
    same("image", x.image(), m.image());
  }

  private void person() {
    int weight = in(40, 130);
    int papers = random.nextInt(5) == 0 ? in(0, 127) : 126 & ~(1 << random.nextInt(9));
    same("person", x.person(weight, papers), m.person(weight, papers));
  }

  private void glider() {
    int seats = random.nextInt(3) == 0 ? in(1, 2) : 2;
    int most = in(random.nextInt(4) == 0 ? 60 : 220, 250);
    int link = in(0, 3);
    int owners = random.nextInt(3) == 0 ? in(0, 16383) : in(0, (1 << m.count(1)) - 1);
    same("glider", x.glider(seats, most, link, owners), m.glider(seats, most, link, owners));
  }

  private void ask() {
    int person = in(0, m.count(1) - 1);
    int with = random.nextInt(2) == 0 ? -1 : in(-1, m.count(1) - 1);
    int glider = in(0, m.count(0) - 1);
    int how = in(1, 30) * 10 + in(1, 5);
    int minutes = random.nextInt(3) == 0 ? in(1, 60) : in(1, 9);
    String what = "ask(" + person + ", " + with + ", " + glider + ", " + how + ", " + minutes + ")";
    same(what, x.ask(person, with, glider, how, minutes), m.ask(person, with, glider, how, minutes));
  }

  private void call(int dice) {
    if (dice < 22) {
      change(dice);
    } else if (dice < 36) {
      if (m.count(4) < 20 || random.nextInt(20) == 0) {
        ask();
      }
    } else if (dice < 46) {
      minutes();
    } else if (dice < 58) {
      foresee(dice);
    } else if (dice < 66) {
      texts();
    } else if (dice < 74) {
      sheets(dice);
    } else if (dice < 80) {
      bills(dice);
    } else if (dice < 84) {
      images();
    } else {
      read(dice);
    }
  }

  private void change(int dice) {
    int a = in(0, 5);
    int b = in(0, 5);
    boolean is = random.nextBoolean();
    switch (dice) {
      case 0:
        if (random.nextInt(4) == 0) {
          person();
        }
        break;
      case 1:
        if (random.nextInt(4) == 0) {
          glider();
        }
        break;
      case 2:
        if (random.nextInt(9) == 0) {
          same("winch", x.winch(), m.winch());
          same("plane", x.plane(), m.plane());
        }
        break;
      case 3:
      case 4:
        int person = in(0, m.count(1) - 1);
        int kind = in(1, 6);
        same("paper", x.paper(person, kind, is), m.paper(person, kind, is));
        break;
      case 5:
      case 6:
      case 7:
        int winch = in(0, m.count(2) - 1);
        int rope = in(0, 1);
        same("broken", x.broken(winch, rope), m.broken(winch, rope));
        break;
      case 8:
      case 9:
      case 10:
        same("cross", x.cross(a, b, is), m.cross(a, b, is));
        break;
      case 11:
      case 12:
      case 13:
        int what = in(0, 3);
        same("lane", x.lane(what, a), m.lane(what, a));
        break;
      case 14:
      case 15:
        int wind = random.nextInt(6) == 0 ? in(0, 40) : in(0, 11);
        same("wind", x.wind(wind), m.wind(wind));
        break;
      case 16:
        int link = in(0, 3);
        boolean there = random.nextInt(6) > 0;
        same("link", x.link(link, there), m.link(link, there));
        break;
      case 17:
      case 18:
      case 19:
        rule();
        break;
      default:
        int ask = in(0, m.count(4) - 1);
        if (random.nextInt(4) == 0) {
          same("back", x.back(ask), m.back(ask));
        }
        break;
    }
  }

  private void rule() {
    int which = in(0, 3);
    int[] most = {20, 900, 60, 20};
    int v = which == 1 && random.nextInt(3) > 0 ? 0 : in(0, which < 0 || which > 3 ? 9 : most[which]);
    same("rule(" + which + ", " + v + ")", x.rule(which, v), m.rule(which, v));
  }

  private void minutes() {
    int n = random.nextInt(4) == 0 ? in(1, 30) : in(1, 4);
    same("run(" + n + ")", x.run(n), m.run(n));
  }

  private void foresee(int dice) {
    int n = random.nextInt(9) == 0 ? in(0, 200) : in(0, 30);
    int what = in(0, 3);
    int ask = in(0, m.count(4) - 1);
    if (dice < 49) {
      same("ahead(" + n + ", " + what + ")", x.ahead(n, what), m.ahead(n, what));
    } else if (dice < 52) {
      int minute = m.count(10) + n;
      same("late(" + minute + ")", x.late(minute), m.late(minute));
    } else if (dice < 54) {
      same("next()", x.next(), m.next());
    } else {
      same("why(" + ask + ")", x.why(ask), m.why(ask));
    }
  }

  private void texts() {
    String text = Writer.text(random, 3);
    for (int i = 0; i < text.length(); ) {
      int n = Math.min(1 + random.nextInt(4), text.length() - i);
      int bytes = random.nextInt();
      for (int k = 0; k < n; k++) {
        bytes = bytes << 8 | text.charAt(i + k);
      }
      same("feed", x.feed(bytes, n), m.feed(bytes, n));
      i += n;
    }
    if (random.nextInt(9) == 0) {
      int n = in(1, 4);
      same("feed n", x.feed(32, n), m.feed(32, n));
    }
    if (random.nextInt(9) == 0) {
      same("wipe", x.wipe(), m.wipe());
    }
    if (random.nextInt(4) == 0) {
      int use = in(0, 1);
      same("text(" + use + ") of " + text, x.text(use), m.text(use));
      same("force", x.force(use), m.force(use));
    }
    int shown = in(0, m.count(9) - 1);
    int height = in(1, 30);
    same("says", x.says(shown, height, 5, -3), m.says(shown, height, 5, -3));
  }

  private void sheets(int dice) {
    int s = in(0, 3);
    int t = in(0, 3);
    int i = in(0, 23);
    int j = in(0, 23);
    int n = in(0, 24);
    int v = in(0, 11);
    int bits = random.nextInt(20) == 0 ? random.nextInt(40) : new int[] {0, 8, 16, 16, 16, 32}[random.nextInt(6)];
    if (dice < 68) {
      same("sheet", x.sheet(s, bits, n), m.sheet(s, bits, n));
    } else if (dice < 70) {
      same("write", x.write(s, i, v), m.write(s, i, v));
    } else if (dice < 72) {
      n = random.nextInt(2) == 0 ? n / 3 : n;
      same("copy", x.copy(s, i, t, j, n), m.copy(s, i, t, j, n));
    } else {
      mend(s);
    }
  }

  /** Checks a sheet, and mends its first wrong number by trying, so that later ones are looked at, too. */
  private void mend(int s) {
    int at = m.check(s);
    same("check", x.check(s), at);
    for (int v = 0; at >= 0 && v < 12; v++) {
      same("mended", x.write(s, at, v), m.write(s, at, v));
      int then = m.check(s);
      same("check again", x.check(s), then);
      if (then > at) {
        at = then;
        v = -1;
      }
    }
  }

  private void bills(int dice) {
    int sum = in(0, 9999);
    if (dice < 77) {
      int glider = in(0, m.count(0) - 1);
      same("share", x.share(glider, sum), m.share(glider, sum));
    } else {
      int person = in(0, m.count(1) - 1);
      int coins = random.nextInt(2) == 0 ? in(1, 99999) : in(1, 100);
      same("pay", x.pay(person, coins), m.pay(person, coins));
    }
  }

  /** Going back often keeps the field busy: only twenty asks can be made. */
  private void images() {
    switch (random.nextInt(16)) {
      case 0:
        same("tear", x.tear(), m.tear());
        break;
      case 1:
        same("image", x.image(), m.image());
        break;
      default:
        same("undo", x.undo(), m.undo());
        break;
    }
  }

  private void read(int dice) {
    int a = in(0, 5);
    int b = in(1, 60);
    switch (dice) {
      case 84:
        same("bound", x.bound(a), m.bound(a));
        break;
      case 85:
        same("span", x.span(a, b), m.span(a, b));
        break;
      case 86:
        int ask = in(0, m.count(4) - 1);
        same("as", x.as(ask, a), m.as(ask, a));
        break;
      case 87:
        int which = in(-1, 6);
        same("status", x.status(which), m.status(which));
        break;
      case 88:
        int what = in(0, 13);
        same("count", x.count(what), m.count(what));
        break;
      case 89:
        int rope = in(0, 1);
        int winch = in(0, m.count(2) - 1);
        int tell = in(0, 1);
        same("rope", x.rope(winch, rope, tell), m.rope(winch, rope, tell));
        break;
      case 90:
        int plane = in(0, m.count(3) - 1);
        same("tow", x.tow(plane), m.tow(plane));
        break;
      case 91:
        same("clear", x.clear(a, b), m.clear(a, b));
        break;
      default:
        all();
        break;
    }
  }

  /** All that can be told, but for what is ahead. */
  private void all() {
    for (int what = 0; what <= 13; what++) {
      same("count(" + what + ")", x.count(what), m.count(what));
    }
    for (int i = 0; i < m.count(0); i++) {
      for (int what = 0; what < 5; what++) {
        same("gliderIs(" + i + ", " + what + ")", x.gliderIs(i, what), m.gliderIs(i, what));
      }
    }
    for (int i = 0; i < m.count(1); i++) {
      for (int what = 0; what < 5; what++) {
        same("personIs(" + i + ", " + what + ")", x.personIs(i, what), m.personIs(i, what));
      }
    }
    for (int i = 0; i < 2 * m.count(2); i++) {
      same("rope " + i, x.rope(i / 2, i % 2, 0), m.rope(i / 2, i % 2, 0));
      same("rope till " + i, x.rope(i / 2, i % 2, 1), m.rope(i / 2, i % 2, 1));
    }
    for (int i = 0; i < m.count(3); i++) {
      same("tow(" + i + ")", x.tow(i), m.tow(i));
    }
    for (int i = 0; i < m.count(4); i++) {
      for (int what = 0; what < 10; what++) {
        same("askIs(" + i + ", " + what + ")", x.askIs(i, what), m.askIs(i, what));
      }
    }
    for (int lane = 0; lane < 6; lane++) {
      same("clear(" + lane + ")", x.clear(lane, 1), m.clear(lane, 1));
    }
    for (int which = -1; which < 7; which++) {
      same("status(" + which + ")", x.status(which), m.status(which));
    }
    same("next()", x.next(), m.next());
  }
}
