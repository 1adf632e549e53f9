import java.util.Set;
import java.util.TreeSet;

/** What the tests of edges share: values around a range, and fields to begin with. */
final class Edges {
  interface Call {
    int on(TowField x, int v);
  }

  interface Start {
    TowField make();
  }

  private Edges() {}

  /** The values of a range and around it, and those far off whose lowest bits might be taken for one of it. */
  static Set<Integer> around(int least, int most) {
    Set<Integer> values = new TreeSet<>();
    for (int v = least - 3; v <= most + 3; v++) {
      values.add(v);
    }
    for (int bit = 0; bit < 32; bit++) {
      int power = 1 << bit;
      for (int near = -1; near <= 1; near++) {
        values.add(power + near);
        values.add(-power + near);
      }
      values.add(power + least);
      values.add(power + most);
    }
    return values;
  }

  /** Values of the range are taken, all others are BEYOND; each is asked of an object of its own. */
  static void range(Due due, String what, int least, int most, Start start, Call call) {
    for (int v : around(least, most)) {
      int answer = call.on(start.make(), v);
      if (v >= least && v <= most) {
        due.holds(what + " " + v + " is taken", !Due.isFinding(answer));
      } else {
        due.is(what + " " + v, answer, Due.BEYOND);
      }
    }
  }

  /** People of 60 with all papers and gliders of two seats that carry 250, in pairs. */
  static TowField pairs(int many) {
    TowField x = new TowField();
    for (int i = 0; i < many; i++) {
      x.person(60, 126);
      x.glider(2, 250, i % 4, 1 << i);
    }
    return x;
  }

  /** A pair, and an ask of it: SELF of HEIGHT 1 (a SPAN of 1) that waits. */
  static TowField oneAsk(int minutes) {
    TowField x = pairs(1);
    x.ask(0, -1, 0, 14, minutes);
    return x;
  }

  static TowField atMinute(int minute) {
    TowField x = new TowField();
    goTo(x, minute);
    return x;
  }

  static void goTo(TowField x, int minute) {
    for (int i = 0; i < 10 && minute - x.count(10) > 100; i++) {
      x.run(100);
    }
    if (minute > x.count(10)) {
      x.run(minute - x.count(10));
    }
  }

  /** As many bytes on the tape: blanks. */
  static TowField withTape(int bytes) {
    TowField x = new TowField();
    blanks(x, bytes);
    return x;
  }

  static void blanks(TowField x, int bytes) {
    for (int left = bytes; left > 0; left -= 4) {
      x.feed(0x20202020, Math.min(4, left));
    }
  }

  static TowField withTexts(int many) {
    TowField x = new TowField();
    for (int i = 0; i < many; i++) {
      Due.text(x, i % 2, "0");
    }
    return x;
  }

  static TowField withSheet(int s, int bits, int n) {
    TowField x = new TowField();
    x.sheet(s, bits, n);
    return x;
  }
}
