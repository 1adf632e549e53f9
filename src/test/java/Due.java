/** Compares answers with those that are due, prints each that differs, and fails the test at its end. */
final class Due {
  static final int BEYOND = -1000001;
  static final int FULL = -1000002;
  static final int KIND = -1000003;
  static final int NONE = -1000004;
  static final int STATE = -1000005;
  static final int MISSING = -1000006;
  static final int SIZE = -1000007;

  private static final int PRINTED = 40;

  private int asked = 0;
  private int wrong = 0;
  private String about = "";

  /** What the answers from here on are about: it is printed ahead of each that differs. */
  void about(String what) {
    about = what;
  }

  void is(String what, long got, long due) {
    asked++;
    if (got != due) {
      wrong++;
      if (wrong <= PRINTED) {
        System.out.println(about + what + " answered " + got + ", due is " + due);
      }
    }
  }

  void holds(String what, boolean is) {
    is(what, is ? 1 : 0, 1);
  }

  boolean isWrong() {
    return wrong > 0;
  }

  int asked() {
    return asked;
  }

  static boolean isFinding(int answer) {
    return answer <= BEYOND && answer >= SIZE;
  }

  void end() {
    System.out.println(asked + " answers, " + wrong + " of them not as due");
    if (wrong > 0 || asked == 0) {
      System.exit(1);
    }
  }

  /** Puts a text on the tape, byte by byte. */
  static void feed(TowField x, String text) {
    for (int i = 0; i < text.length(); i++) {
      x.feed(text.charAt(i), 1);
    }
  }

  /** Wipes the tape, feeds a text and makes it one of a use. */
  static int text(TowField x, int use, String text) {
    x.wipe();
    feed(x, text);
    return x.text(use);
  }
}
