/** All that can be read of an object by calls that answer no finding, as one text. */
final class Picture {
  private Picture() {}

  static String of(TowField x) {
    StringBuilder out = new StringBuilder();
    for (int what = 0; what <= 13; what++) {
      add(out, "count", x.count(what));
    }
    gear(x, out);
    asks(x, out);
    settings(x, out);
    for (int use = 0; use < 2 && x.count(9) > 0; use++) {
      for (int text = 0; text < x.count(9); text++) {
        add(out, "says", x.says(text, 7 + use, 11, 3));
      }
    }
    for (int what = 0; what < 4; what++) {
      add(out, "ahead", x.ahead(60, what));
    }
    add(out, "next", x.next());
    return out.toString();
  }

  private static void gear(TowField x, StringBuilder out) {
    for (int g = 0; g < x.count(0); g++) {
      for (int what = 0; what < 5; what++) {
        add(out, "glider", x.gliderIs(g, what));
      }
    }
    for (int p = 0; p < x.count(1); p++) {
      for (int what = 0; what < 5; what++) {
        add(out, "person", x.personIs(p, what));
      }
    }
    for (int rope = 0; rope < 2 * x.count(2); rope++) {
      add(out, "rope", x.rope(rope / 2, rope % 2, 0));
      add(out, "till", x.rope(rope / 2, rope % 2, 1));
    }
    for (int plane = 0; plane < x.count(3); plane++) {
      add(out, "tow", x.tow(plane));
    }
  }

  private static void asks(TowField x, StringBuilder out) {
    for (int a = 0; a < x.count(4); a++) {
      for (int what = 0; what < 10; what++) {
        add(out, "ask", x.askIs(a, what));
      }
      if (x.askIs(a, 6) == 0) {
        add(out, "why", x.why(a));
      }
    }
  }

  /** Settings that only a change tells: each is changed and put back. */
  private static void settings(TowField x, StringBuilder out) {
    int wind = x.wind(0);
    x.wind(wind);
    add(out, "wind", wind);
    for (int which = 0; which < 4; which++) {
      int rule = x.rule(which, 1);
      x.rule(which, rule);
      add(out, "rule", rule);
      int lane = x.lane(which, 0);
      x.lane(which, lane);
      add(out, "lane", lane);
      boolean wasMissing = x.link(which, true) == 1;
      x.link(which, !wasMissing);
      add(out, "link", wasMissing ? 0 : 1);
    }
    for (int pair = 0; pair < 36; pair++) {
      if (pair / 6 != pair % 6) {
        boolean wasApart = x.cross(pair / 6, pair % 6, true) == 1;
        x.cross(pair / 6, pair % 6, !wasApart);
        add(out, "cross", wasApart ? 0 : 1);
      }
    }
    for (int lane = 0; lane < 6; lane++) {
      add(out, "clear", x.clear(lane, 1));
    }
  }

  private static void add(StringBuilder out, String name, int value) {
    out.append(name).append(' ').append(value).append('\n');
  }
}
