/** Promises 37 to 44: sheets, images, counts and status. */
public final class SheetTests {
  private static final Due due = new Due();
  private static final int BEYOND = Due.BEYOND;

  public static void main(String[] args) {
    sheet();
    write();
    copy();
    copyOntoItself();
    image();
    imageOfAll();
    imageOfTexts();
    newOnesBehindAnUndo();
    count();
    status();
    due.end();
  }

  private static void sheet() {
    TowField x = new TowField();
    due.is("p37 sheet -1", x.sheet(-1, 8, 1), BEYOND);
    due.is("p37 sheet 4", x.sheet(4, 8, 1), BEYOND);
    int[] wrong = {-8, -1, 1, 7, 9, 15, 24, 31, 33, 64};
    for (int bits : wrong) {
      due.is("p37 bits " + bits, x.sheet(0, bits, 1), BEYOND);
    }
    due.is("p37 bits ahead of size", x.sheet(0, 9, -1), BEYOND);
    due.is("p37 sheet ahead of size", x.sheet(4, 8, -1), BEYOND);
    due.is("p37 size", x.sheet(0, 8, -1), Due.SIZE);
    due.is("p37 size, least", x.sheet(0, 8, Integer.MIN_VALUE), Due.SIZE);
    due.is("p37 25", x.sheet(0, 8, 25), BEYOND);
    due.is("p37 still missing", x.check(0), Due.MISSING);
    due.is("p37 24", x.sheet(0, 8, 24), 24);
    due.is("p37 all 0", x.check(0), 24);
    due.is("p37 0", x.sheet(1, 32, 0), 0);
    due.is("p37 none, but there", x.check(1), 0);
    due.is("p37 missing, size", x.sheet(0, 0, -1), Due.SIZE);
    due.is("p37 missing, 25", x.sheet(0, 0, 25), BEYOND);
    due.is("p37 there yet", x.check(0), 24);
    due.is("p37 missing", x.sheet(0, 0, 24), 0);
    due.is("p37 is missing", x.check(0), Due.MISSING);
    x.sheet(2, 16, 3);
    for (int i = 0; i < 3; i++) {
      x.write(2, i, 5);
    }
    due.is("p37 anew", x.sheet(2, 16, 3), 3);
    due.is("p37 all 0 again", x.check(2), 3);
  }

  private static void write() {
    TowField x = new TowField();
    due.is("p38 sheet -1", x.write(-1, 0, 1), BEYOND);
    due.is("p38 sheet 4", x.write(4, 0, 1), BEYOND);
    due.is("p38 missing", x.write(0, 0, 1), Due.MISSING);
    due.is("p38 missing ahead of its number", x.write(0, -1, 1), Due.MISSING);
    x.sheet(0, 8, 2);
    due.is("p38 -1", x.write(0, -1, 1), BEYOND);
    due.is("p38 2", x.write(0, 2, 1), BEYOND);
    due.is("p38 largest", x.write(0, Integer.MAX_VALUE, 1), BEYOND);
    due.is("p38 1", x.write(0, 1, 1), 1);
    due.is("p38 is there", x.check(0), 1);
    due.is("p38 0 of its lowest bits", x.write(0, 1, 768), 1);
    due.is("p38 is 0", x.check(0), 2);
    x.write(0, 1, 128);
    due.is("p38 isn't 0", x.check(0), 1);
    x.sheet(1, 16, 1);
    x.write(1, 0, 256);
    due.is("p38 16 bits have it", x.check(1), 0);
    x.write(1, 0, 65536);
    due.is("p38 16 bits have not", x.check(1), 1);
    x.sheet(2, 32, 1);
    x.write(2, 0, 65536);
    due.is("p38 32 bits have it", x.check(2), 0);
  }

  private static void copy() {
    TowField x = new TowField();
    due.is("p39 s -1", x.copy(-1, 0, 0, 0, 0), BEYOND);
    due.is("p39 s 4", x.copy(4, 0, 0, 0, 0), BEYOND);
    due.is("p39 t -1", x.copy(0, 0, -1, 0, 0), BEYOND);
    due.is("p39 t 4", x.copy(0, 0, 4, 0, 0), BEYOND);
    due.is("p39 both missing", x.copy(0, 0, 1, 0, 0), Due.MISSING);
    x.sheet(0, 8, 4);
    due.is("p39 t missing", x.copy(0, 0, 1, 0, 0), Due.MISSING);
    due.is("p39 s missing", x.copy(1, 0, 0, 0, 0), Due.MISSING);
    x.sheet(1, 16, 3);
    due.is("p39 kind", x.copy(0, 0, 1, 0, 0), Due.KIND);
    due.is("p39 kind ahead of beyond", x.copy(0, -1, 1, 0, 0), Due.KIND);
    x.sheet(1, 8, 3);
    due.is("p39 from -1", x.copy(0, -1, 1, 0, 1), BEYOND);
    due.is("p39 to -1", x.copy(0, 0, 1, -1, 1), BEYOND);
    due.is("p39 n -1", x.copy(0, 0, 1, 0, -1), BEYOND);
    due.is("p39 s has not so many", x.copy(1, 1, 0, 0, 3), BEYOND);
    due.is("p39 t has not so many", x.copy(0, 0, 1, 1, 3), BEYOND);
    due.is("p39 largest n", x.copy(0, 1, 1, 0, Integer.MAX_VALUE), BEYOND);
    due.is("p39 largest from", x.copy(0, Integer.MAX_VALUE, 1, 0, 1), BEYOND);
    due.is("p39 largest to", x.copy(0, 0, 1, Integer.MAX_VALUE, 1), BEYOND);
    due.is("p39 none", x.copy(0, 4, 1, 3, 0), 0);
    x.write(0, 1, 1);
    due.is("p39 three", x.copy(0, 1, 1, 0, 3), 3);
    due.is("p39 came", x.check(1), 0);
    x.write(1, 0, 0);
    due.is("p39 only that", x.check(1), 3);
    due.is("p39 stays", x.check(0), 1);
  }

  private static void copyOntoItself() {
    TowField x = new TowField();
    x.person(60, 16);
    x.glider(1, 100, 0, 0);
    x.ask(0, -1, 0, 14, 2);
    x.sheet(0, 8, 6);
    // The row 1 0 0 10 0 0 is as it would be; from 9 1 0 0 10 0 it comes by a step to the left.
    int[] row = {9, 1, 0, 0, 10, 0};
    for (int i = 0; i < row.length; i++) {
      x.write(0, i, row[i]);
    }
    due.is("p39 to the left", x.copy(0, 1, 0, 0, 5), 5);
    due.is("p39 as they were", x.check(0), 6);
    int[] other = {0, 0, 10, 0, 0, 0};
    for (int i = 0; i < other.length; i++) {
      x.write(0, i, other[i]);
    }
    due.is("p39 to the right", x.copy(0, 0, 0, 1, 5), 5);
    x.write(0, 0, 1);
    due.is("p39 as they were, too", x.check(0), 6);
  }

  private static void image() {
    TowField x = new TowField();
    due.is("p41 none", x.undo(), Due.NONE);
    due.is("p42 nothing", x.tear(), 0);
    x.run(3);
    due.is("p40 kept", x.image(), 1);
    x.run(5);
    due.is("p41 3", x.undo(), 3);
    due.is("p41 is open", x.count(10), 3);
    x.run(9);
    due.is("p41 it stays", x.undo(), 3);
    x.run(1);
    due.is("p40 anew", x.image(), 1);
    x.run(1);
    due.is("p41 the latest", x.undo(), 4);
    due.is("p42 torn", x.tear(), 1);
    due.is("p42 only once", x.tear(), 0);
    due.is("p41 none again", x.undo(), Due.NONE);
    due.is("p42 the minute stays", x.count(10), 4);
  }

  private static TowField busy() {
    TowField x = new TowField();
    for (int i = 0; i < 5; i++) {
      x.person(60 + i, 126);
      x.glider(2, 200, i % 4, 1 + 2 * i);
    }
    x.winch();
    x.plane();
    x.ask(0, 1, 0, 14, 5);
    x.ask(2, -1, 1, 102, 5);
    x.ask(3, -1, 2, 11, 5);
    x.ask(4, -1, 3, 13, 5);
    x.ask(4, -1, 3, 13, 5);
    x.back(4);
    Due.text(x, 0, "height = 29");
    x.share(1, 50);
    x.run(5);
    return x;
  }

  private static void imageOfAll() {
    TowField x = busy();
    x.feed(1, 2);
    x.sheet(1, 8, 2);
    String before = Picture.of(x);
    x.image();
    x.person(100, 2);
    x.glider(1, 100, 3, 3);
    x.winch();
    x.plane();
    x.ask(5, -1, 5, 11, 5);
    x.back(3);
    x.paper(0, 4, false);
    x.broken(0, 0);
    x.cross(0, 1, true);
    x.lane(2, 5);
    x.wind(33);
    x.link(2, false);
    x.rule(0, 9);
    x.rule(1, 9);
    x.rule(2, 9);
    x.rule(3, 9);
    Due.text(x, 1, "height * 7");
    Due.text(x, 0, "1");
    x.share(1, 77);
    x.pay(0, 5);
    x.run(30);
    x.feed(7, 3);
    x.sheet(1, 0, 0);
    x.sheet(2, 8, 5);
    int findings = x.status(-1);
    x.run(0);
    due.is("p41 undo", x.undo(), 5);
    due.is("p41 the tape is not kept", x.count(11), 3);
    due.is("p41 sheets are not kept", x.check(1), Due.MISSING);
    due.is("p41 nor status", x.status(-1), findings + 2);
    x.wipe();
    x.feed(1, 2);
    due.holds("p41 all is as it was", Picture.of(x).equals(before));
    x.run(20);
    x.undo();
    due.holds("p41 again", Picture.of(x).equals(before));
  }

  private static void imageOfTexts() {
    TowField x = new TowField();
    Due.text(x, 0, "1");
    Due.text(x, 1, "2");
    x.image();
    Due.text(x, 0, "3");
    Due.text(x, 0, "4");
    due.is("p41 in force", x.force(0), 3);
    x.undo();
    due.is("p41 texts", x.count(9), 2);
    due.is("p41 in force as kept", x.force(0), 0);
    due.is("p41 no such text", x.says(2, 0, 0, 0), BEYOND);
    due.is("p41 its number anew", Due.text(x, 1, "5"), 2);
    due.is("p41 0 says", x.says(0, 0, 0, 0), 1);
    due.is("p41 1 says", x.says(1, 0, 0, 0), 2);
    due.is("p41 2 says", x.says(2, 0, 0, 0), 5);
    x.tear();
    due.is("p42 stays", x.says(2, 0, 0, 0), 5);
  }

  /** What comes anew behind an undo has nothing of what had its number before. */
  private static void newOnesBehindAnUndo() {
    TowField x = new TowField();
    x.person(60, 16);
    x.image();
    x.person(70, 16);
    x.glider(1, 100, 1, 2);
    x.winch();
    x.plane();
    x.share(0, 99);
    x.ask(1, -1, 0, 14, 2);
    x.ask(1, -1, 0, 12, 2);
    x.run(7);
    due.is("p41 it has flown", x.personIs(1, 2), 3);
    x.undo();
    x.person(50, 8);
    x.glider(2, 110, 3, 1);
    x.winch();
    x.plane();
    x.ask(1, -1, 0, 25, 7);
    int[] person = {50, 8, -1, 0, 0};
    int[] glider = {2, 110, 3, 1, 1};
    for (int what = 0; what < 5; what++) {
      due.is("p41 a new person " + what, x.personIs(1, what), person[what]);
      due.is("p41 a new glider " + what, x.gliderIs(0, what), glider[what]);
    }
    int[] ask = {1, -1, 0, 5, 2, 7, 0, -1, -1, -1};
    for (int what = 0; what < ask.length; what++) {
      due.is("p41 a new ask " + what, x.askIs(0, what), ask[what]);
    }
    due.is("p41 a new rope", x.rope(0, 0, 0), 0);
    due.is("p41 its till", x.rope(0, 0, 1), -1);
    due.is("p41 a new plane", x.tow(0), -1);
    due.is("p41 no movements", x.count(13), 0);
  }

  private static void count() {
    TowField x = busy();
    int[] dues = {5, 5, 1, 1, 5};
    for (int what = 0; what < dues.length; what++) {
      due.is("p43 " + what, x.count(what), dues[what]);
    }
    // In 5: ask 0 has been up since 0, 1 since 1, 2 since 4; 3 waits, 4 is gone.
    due.is("p43 wait", x.count(5), 1);
    due.is("p43 in the air", x.count(6), 3);
    due.is("p43 down", x.count(7), 0);
    due.is("p43 gone", x.count(8), 1);
    due.is("p43 texts", x.count(9), 1);
    due.is("p43 minute", x.count(10), 5);
    x.feed(0, 3);
    due.is("p43 tape", x.count(11), 3);
    due.is("p43 bills", x.count(12), 50);
    // Launch 2 is on its lane till 6, fetching till 8; launch 1 ended with 3.
    due.is("p43 movements", x.count(13), 2);
    x.run(1);
    due.is("p43 movements later", x.count(13), 1);
    x.run(1);
    due.is("p43 with a landing", x.count(13), 2);
    due.is("p43 one is down", x.count(7), 1);
    due.is("p43 -1", x.count(-1), BEYOND);
    due.is("p43 14", x.count(14), BEYOND);
  }

  private static void status() {
    TowField x = new TowField();
    due.is("p44 none", x.status(-1), 0);
    for (int which = 0; which < 7; which++) {
      due.is("p44 none of it", x.status(which), 0);
    }
    x.wind(41);
    x.wind(-1);
    due.is("p44 beyond", x.status(0), 2);
    for (int i = 0; i < 4; i++) {
      x.winch();
    }
    due.is("p44 full", x.status(1), 1);
    x.person(60, 0);
    x.glider(1, 100, 0, 0);
    x.ask(0, -1, 0, 11, 1);
    x.as(0, 2);
    due.is("p44 kind", x.status(2), 1);
    x.share(0, 5);
    x.undo();
    x.force(0);
    due.is("p44 none", x.status(3), 3);
    x.pay(0, 1);
    due.is("p44 state", x.status(4), 1);
    x.check(0);
    due.is("p44 missing", x.status(5), 1);
    x.sheet(0, 8, -1);
    due.is("p44 size", x.status(6), 1);
    due.is("p44 all", x.status(-1), 10);
    due.is("p44 7", x.status(7), BEYOND);
    due.is("p44 -2", x.status(-2), BEYOND);
    due.is("p44 counted from then on", x.status(0), 4);
    due.is("p44 all then", x.status(-1), 12);
    x.image();
    x.wind(41);
    x.undo();
    due.is("p44 ever", x.status(0), 5);
  }
}
