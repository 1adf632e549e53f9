/** Promises 26 to 30: the tape and the texts. */
public final class TextTests {
  private static final Due due = new Due();
  private static final int BEYOND = Due.BEYOND;

  public static void main(String[] args) {
    feed();
    wipe();
    text();
    faults();
    nesting();
    force();
    values();
    says();
    bars();
    costs();
    due.end();
  }

  private static void feed() {
    TowField x = new TowField();
    due.is("p26 n 0", x.feed(1, 0), BEYOND);
    due.is("p26 n 5", x.feed(1, 5), BEYOND);
    due.is("p26 n -1", x.feed(1, -1), BEYOND);
    due.is("p26 the highest first", x.feed('1' << 24 | '2' << 16 | '3' << 8 | '4', 4), 4);
    x.text(0);
    due.is("p26 1234", x.says(0, 0, 0, 0), 1234);
    due.is("p26 the lowest ones", x.feed('9' << 24 | '1' << 16 | '2' << 8 | '3', 3), 3);
    x.text(0);
    due.is("p26 123", x.says(1, 0, 0, 0), 123);
    x.feed('9' << 16 | '1' << 8 | '2', 2);
    x.text(0);
    due.is("p26 12", x.says(2, 0, 0, 0), 12);
    x.feed(-256 + '7', 1);
    x.text(0);
    due.is("p26 7", x.says(3, 0, 0, 0), 7);
    for (int i = 1; i <= 24; i++) {
      due.is("p26 how many", x.feed(0, 4), 4 * i);
    }
    due.is("p26 97", x.feed(0, 1), 97);
    due.is("p26 four are too many", x.feed(0, 4), Due.FULL);
    due.is("p26 still 97", x.count(11), 97);
    due.is("p26 100", x.feed(0, 3), 100);
    due.is("p26 full", x.feed(0, 1), Due.FULL);
    due.is("p26 beyond is asked first", x.feed(0, 5), BEYOND);
  }

  private static void wipe() {
    TowField x = new TowField();
    due.is("p27 none", x.wipe(), 0);
    x.feed(0, 3);
    due.is("p27 three", x.wipe(), 3);
    due.is("p27 empty", x.count(11), 0);
    due.is("p27 empty again", x.wipe(), 0);
  }

  private static void text() {
    TowField x = new TowField();
    due.is("p28 empty", x.text(0), -1);
    x.feed('1', 1);
    due.is("p28 use -1", x.text(-1), BEYOND);
    due.is("p28 use 2", x.text(2), BEYOND);
    due.is("p28 the tape stays", x.count(11), 1);
    due.is("p28 first", x.text(1), 0);
    due.is("p28 the tape is empty", x.count(11), 0);
    x.feed('x', 1);
    due.is("p28 fault", x.text(0), -1);
    due.is("p28 the tape is empty, too", x.count(11), 0);
    due.is("p28 no finding", x.status(-1), 2);
    for (int i = 1; i < 6; i++) {
      due.is("p28 among all", Due.text(x, i % 2, "1"), i);
    }
    x.feed('x', 1);
    due.is("p28 full ahead of a fault", x.text(0), Due.FULL);
    due.is("p28 beyond ahead of full", x.text(2), BEYOND);
    due.is("p28 the tape stays in both", x.count(11), 1);
    due.is("p28 six", x.count(9), 6);
  }

  private static void fault(String text, int place) {
    TowField x = new TowField();
    due.is("p28 fault of '" + text + "'", Due.text(x, 0, text), -1 - place);
    due.is("p28 no text of '" + text + "'", x.count(9), 0);
  }

  private static void fine(String text) {
    TowField x = new TowField();
    due.is("p28 fine '" + text + "'", Due.text(x, 1, text), 0);
  }

  private static void faults() {
    fault("", 0);
    fault("   ", 3);
    fault("1 +", 3);
    fault("1 + ", 4);
    fault("1 1", 2);
    fault("12ab", 2);
    fault("ab12", 0);
    fault("wind12", 4);
    fault("windy", 0);
    fault("win", 0);
    fault("Wind", 0);
    fault("1 + heigh", 4);
    fault("1 + minute", 4);
    fault("12345", 0);
    fault("1 * 12345", 4);
    fault("00001", 0);
    fault("1 | | 1", 4);
    fault("1 & ", 4);
    fault("1 < 2 < 3", 6);
    fault("1 = 2 > 3", 6);
    fault("(1 < 2) = (1 > 2) = 1", 18);
    fault("1 + !2", 4);
    fault("1 = !2", 4);
    fault("-1", 0);
    fault("2 * -1", 4);
    fault("()", 1);
    fault("(1", 2);
    fault("(1 ", 3);
    fault("1)", 1);
    fault("(1))", 3);
    fault("!", 1);
    fault("1 !", 2);
    fault("1 (", 2);
    fault("1 $ 2", 2);
    fault("1 x 2", 2);
    fault("1 12345", 2);
    fault("$", 0);
    fault("1\t", 1);
    fault("1 + " + (char) 200, 4);
    fault("1" + (char) 0, 1);
    fault("1 windwind", 2);
    fault("wind wind", 5);
    fault("1 || 1", 3);
    fault("1 && 1", 3);
    fault("1 == 1", 3);
    fault("a".repeat(100), 0);
    fault("1+".repeat(50), 100);
    fault(" ".repeat(99) + "+", 99);
    fine("1");
    fine("0001");
    fine(" 1 ");
    fine("1+2-3*4/5");
    fine("1-1");
    fine("  height+minutes  *kind/wind  ");
    fine("!height<3&!(kind=2|wind>3)");
    fine("9+".repeat(49) + "9 ");
    fine(" ".repeat(96) + "wind");
  }

  private static void nesting() {
    fine("((((((1))))))");
    fault("(((((((1)))))))", 6);
    fine("!!!!!!1");
    fault("!!!!!!!1", 6);
    fine("!(!(!(1)))");
    fault("!(!(!((1))))", 6);
    fine("!!!!!!1 & !!!!!!1 | !!!!!!1");
    fine("((((((1)))))) + ((((((1))))))");
    fault("!1 = ((((((1))))))", 10);
    fine("!1 = (((((1)))))");
    fine("!1 & ((((((1))))))");
    fine("(!1 & (((((1))))))");
    fault("(!1 & ((((((1)))))))", 11);
    fault("(((((!!1)))))", 6);
    fine("(((((!1)))))");
  }

  private static void force() {
    TowField x = new TowField();
    due.is("p29 none", x.force(0), Due.NONE);
    due.is("p29 -1", x.force(-1), BEYOND);
    due.is("p29 2", x.force(2), BEYOND);
    Due.text(x, 1, "1");
    due.is("p29 none of 0", x.force(0), Due.NONE);
    due.is("p29 cost", x.force(1), 0);
    Due.text(x, 0, "1");
    Due.text(x, 1, "2");
    due.is("p29 bar", x.force(0), 1);
    due.is("p29 the last cost", x.force(1), 2);
    Due.text(x, 1, "2+");
    due.is("p29 a fault changes nothing", x.force(1), 2);
  }

  private static void value(String text, int want) {
    TowField x = new TowField();
    x.wind(13);
    int number = Due.text(x, 0, text);
    due.is("p30 '" + text + "' is a text", number, 0);
    due.is("p30 '" + text + "'", x.says(0, 5, 7, 3), want);
  }

  private static void values() {
    value("height", 5);
    value("minutes", 7);
    value("kind", 3);
    value("wind", 13);
    value("9999", 9999);
    value("0012", 12);
    value("1 - 2 - 3", -4);
    value("1 - (2 - 3)", 2);
    value("2 + 3 * 4", 14);
    value("2 * 3 + 4", 10);
    value("100 / 7 / 2", 7);
    value("100 / 7 * 2", 28);
    value("(0 - 7) / 2", -3);
    value("7 / (0 - 2)", -3);
    value("7 / 0", 0);
    value("7 / (kind - 3) + 1", 1);
    value("5 | 0", 1);
    value("0 | 0", 0);
    value("0 | 7", 1);
    value("5 & 6", 1);
    value("5 & 0", 0);
    value("0 & 5", 0);
    value("1 | 0 & 0", 1);
    value("(1 | 0) & 0", 0);
    value("!0", 1);
    value("!5", 0);
    value("!!5", 1);
    value("!1 = 2", 1);
    value("!2 = 2", 0);
    value("!1 + 1", 0);
    value("(!1) + 1", 1);
    value("!0 & 0", 0);
    value("1 < 2", 1);
    value("2 < 2", 0);
    value("2 > 2", 0);
    value("3 > 2", 1);
    value("2 = 2", 1);
    value("2 = 3", 0);
    value("1 + 1 = 2", 1);
    value("4 = 2 * 2", 1);
    value("(1 < 2) < 3", 1);
    value("9999 * 9999", 99980001);
    value("9999 * 9999 * 9999", (int) (99980001L * 9999L));
    value("9999 * 9999 * 9999 * 9999", (int) (99980001L * 99980001L));
    // -2147483648 is 0 less 2 to the 31st; by -1 it wraps to itself.
    value("(0 - 4096 * 4096 * 128) / (0 - 1)", Integer.MIN_VALUE);
    value("4096 * 4096 * 128 - 1", Integer.MAX_VALUE);
    value("0 - 1000 * 1000 - 1", -1000001);
    value("1 & (5)", 1);
    value("(5)", 5);
    value("height*100+minutes*10+kind", 573);
    value("1|2=2&0", 1);
    value("1+1=2|0", 1);
  }

  private static void says() {
    TowField x = new TowField();
    due.is("p30 none", x.says(0, 1, 1, 1), BEYOND);
    Due.text(x, 0, "height + minutes * kind");
    Due.text(x, 1, "wind - height");
    due.is("p30 -1", x.says(-1, 1, 1, 1), BEYOND);
    due.is("p30 2", x.says(2, 1, 1, 1), BEYOND);
    due.is("p30 any ints", x.says(0, Integer.MAX_VALUE, 1, 1), Integer.MIN_VALUE);
    due.is("p30 -5", x.says(0, -5, -6, -7), 37);
    due.is("p30 wind 0", x.says(1, 4, 0, 0), -4);
    x.wind(9);
    due.is("p30 the wind of now", x.says(1, 4, 0, 0), 5);
    int before = x.status(-1);
    due.is("p30 as a finding looks", x.says(1, 9 + 1000001, 0, 0), BEYOND);
    due.is("p30 but it is none", x.status(-1), before);
  }

  private static void bars() {
    TowField x = new TowField();
    x.person(80, 16);
    x.glider(1, 100, 0, 0);
    x.ask(0, -1, 0, 74, 6);
    x.rule(3, 20);
    due.is("no bar", x.why(0), 0);
    Due.text(x, 0, "height = 7 & minutes = 6 & kind = 4");
    due.is("barred by what is asked for", x.why(0), 9);
    Due.text(x, 0, "wind - 3");
    due.is("any number but 0 bars", x.why(0), 9);
    x.wind(3);
    due.is("0 doesn't", x.why(0), 0);
    due.is("next", x.next(), 2000);
    x.wind(4);
    due.is("next is barred", x.next(), 0);
    x.run(3);
    due.is("it waits", x.askIs(0, 6), 0);
    due.is("ahead is barred", x.ahead(9, 0), 0);
    Due.text(x, 1, "1");
    due.is("a cost bars nothing, nor ends a bar", x.why(0), 9);
    Due.text(x, 0, "0");
    due.is("the last one is in force", x.why(0), 0);
  }

  private static int costOf(String text, int how, int minutes) {
    TowField x = new TowField();
    x.person(80, 126);
    x.glider(1, 100, 0, 0);
    x.wind(2);
    if (text.length() > 0) {
      Due.text(x, 1, text);
    }
    x.ask(0, -1, 0, how, minutes);
    x.plane();
    x.run(90);
    due.is("the bill is the cost", x.personIs(0, 3), x.askIs(0, 9));
    return x.askIs(0, 9);
  }

  private static void costs() {
    due.is("cost without a text", costOf("", 304, 60), 60 + 60 + 60);
    due.is("cost of a short one: SHORT in the air", costOf("", 14, 1), 10 + 2 + 2);
    due.is("cost by names", costOf("height * 1000 + minutes * 100 + kind * 10 + wind", 44, 1), 4000 + 200 + 40 + 2);
    due.is("cost below 0", costOf("0 - 5", 14, 1), 0);
    due.is("cost 9999", costOf("9999", 14, 1), 9999);
    due.is("cost above", costOf("9999 + 1", 14, 1), 9999);
    due.is("cost that wraps", costOf("4096 * 4096 * 128", 14, 1), 0);
    TowField x = new TowField();
    x.person(80, 16);
    x.glider(1, 100, 0, 0);
    x.ask(0, -1, 0, 14, 3);
    Due.text(x, 1, "minutes * 100 + wind");
    x.run(1);
    x.lane(2, 1);
    x.lane(1, 5);
    x.wind(9);
    x.run(5);
    due.is("cost by the minutes in the air and the wind of then", x.askIs(0, 9), 309);
  }
}
