/**
 * All that can be read of an object by calls, as texts: those that change an object come last in their part, so that each part
 * wants an object of its own with the same calls behind it.
 */
final class Picture {
  static final int PARTS = 5;

  private Picture() {}

  static String part(TowField x, int part) {
    StringBuilder out = new StringBuilder();
    switch (part) {
      case 0:
        gear(x, out);
        break;
      case 1:
        asks(x, out);
        break;
      case 2:
        settings(x, out);
        break;
      case 3:
        sheets(x, out);
        break;
      default:
        tapeAndImage(x, out);
        break;
    }
    return out.toString();
  }

  /** The parts that change nothing: sections 1 to 6 of the terms, and how many bytes the tape has. */
  static String of(TowField x) {
    return part(x, 0) + part(x, 1) + part(x, 2);
  }

  private static void gear(TowField x, StringBuilder out) {
    for (int what = 0; what <= 13; what++) {
      add(out, "count", x.count(what));
    }
    for (int g = 0; g < x.count(0); g++) {
      for (int what = 0; what < 5; what++) {
        add(out, "glider", x.gliderIs(g, what));
      }
    }
    for (int p = 0; p < x.count(1); p++) {
      for (int what = 0; what < 5; what++) {
        add(out, "person", x.personIs(p, what));
      }
    }
    for (int rope = 0; rope < 2 * x.count(2); rope++) {
      add(out, "rope", x.rope(rope / 2, rope % 2, 0));
      add(out, "till", x.rope(rope / 2, rope % 2, 1));
    }
    for (int plane = 0; plane < x.count(3); plane++) {
      add(out, "tow", x.tow(plane));
    }
  }

  private static void asks(TowField x, StringBuilder out) {
    int many = x.count(4);
    for (int a = 0; a < many; a++) {
      for (int what = 0; what < 10; what++) {
        add(out, "ask", x.askIs(a, what));
      }
      if (x.askIs(a, 6) == 0) {
        add(out, "why", x.why(a));
      }
    }
    add(out, "next", x.next());
    for (int what = 0; what < 4; what++) {
      add(out, "ahead", x.ahead(60, what));
    }
    add(out, "late", x.late(x.count(10) + 5));
  }

  /** Settings that only a change tells: each is changed and put back. */
  private static void settings(TowField x, StringBuilder out) {
    int wind = x.wind(0);
    x.wind(wind);
    add(out, "wind", wind);
    for (int which = 0; which < 4; which++) {
      int rule = x.rule(which, 1);
      x.rule(which, rule);
      add(out, "rule", rule);
      int lane = x.lane(which, 0);
      x.lane(which, lane);
      add(out, "lane", lane);
      boolean wasMissing = x.link(which, true) == 1;
      x.link(which, !wasMissing);
      add(out, "link", wasMissing ? 0 : 1);
    }
    for (int pair = 0; pair < 36; pair++) {
      if (pair / 6 != pair % 6) {
        boolean wasApart = x.cross(pair / 6, pair % 6, true) == 1;
        x.cross(pair / 6, pair % 6, !wasApart);
        add(out, "cross", wasApart ? 0 : 1);
      }
    }
    for (int lane = 0; lane < 6; lane++) {
      add(out, "clear", x.clear(lane, 1));
    }
    int texts = x.count(9);
    for (int text = 0; text < texts; text++) {
      add(out, "says", x.says(text, 7, 11, 3));
    }
    for (int use = 0; use < 2 && texts > 0; use++) {
      add(out, "force", x.force(use));
    }
  }

  /** A sheet can't be read but by check: its numbers are made what they should be, place by place. */
  private static void sheets(TowField x, StringBuilder out) {
    int[] tries = {0, 1, 10, 11};
    for (int s = 0; s < 4; s++) {
      int at = x.check(s);
      add(out, "check", at);
      for (int i = 0; i < 4 * 24 && x.write(s, at, tries[i % 4]) == 1; i++) {
        at = x.check(s);
        add(out, "check", at);
      }
      for (int t = 0; t < 4; t++) {
        add(out, "copy", x.copy(s, 0, t, 0, 0));
      }
    }
  }

  private static void tapeAndImage(TowField x, StringBuilder out) {
    add(out, "undo", x.undo());
    add(out, "minute", x.count(10));
    add(out, "asks", x.count(4));
    // A text of what is left on the tape, where there is room for one.
    int text = x.text(0);
    add(out, "text", text);
    add(out, "says", x.says(text, 7, 11, 3));
    add(out, "wipe", x.wipe());
    add(out, "tear", x.tear());
  }

  private static void add(StringBuilder out, String name, int value) {
    out.append(name).append(' ').append(value).append('\n');
  }
}
