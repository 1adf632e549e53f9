import java.util.function.Consumer;

/** Edges of promises 40 to 44: images, counts and status. */
final class ImageEdges {
  private static final int BEYOND = Due.BEYOND;

  private ImageEdges() {}

  static void tell(Sentences doc) {
    doc.says("p40", "All that sections 1 to 6 tell (THE TAPE not) is kept: 1.", ImageEdges::image);
    doc.says("p41", "It becomes what was kept latest (which stays): the open MINUTE.", ImageEdges::undo);
    doc.says("p41", "NONE: nothing is kept.", ImageEdges::undoOfNothing);
    doc.says("p42", "Nothing is kept: 1 if something was, else 0.", ImageEdges::tear);
    doc.says("p43", "0 GLIDERS, 1 PEOPLE, 2 WINCHES, 3 PLANES, 4 ASKS,", ImageEdges::countThings);
    doc.says("p43", "5 to 8 of them that wait, are in the air, down, gone,", ImageEdges::countAsks);
    doc.says("p43", "9 TEXTS, 10 the open MINUTE, 11 bytes of THE TAPE,", ImageEdges::countTexts);
    doc.says("p43", "12 BILLS together,", ImageEdges::countBills);
    doc.says("p43", "13 MOVEMENTS that are in the open MINUTE or later.", ImageEdges::countMovements);
    doc.says("p43", "BEYOND: another what.", ImageEdges::countBeyond);
    doc.says("p44", "How many acts answered a finding ever (this one not):", ImageEdges::everCounted);
    doc.says("p44", "which -1: all, 0 to 6: BEYOND to SIZE.", ImageEdges::eachFinding);
    doc.says("p44", "BEYOND (counted from then on): another one.", ImageEdges::statusBeyond);
  }

  /** Each change to what sections 1 to 6 tell is undone; the tape, sheets and status stay. */
  private static void image(Due due) {
    int number = 0;
    for (Consumer<TowField> change : Changes.ALL) {
      boolean changed = false;
      // An image is kept already by what is busy, so the part that tells of it is left out.
      for (int part = 0; part < Picture.PARTS - 1; part++) {
        TowField x = Afternoon.busy();
        due.is("kept", x.image(), 1);
        change.accept(x);
        String then = Picture.part(x, part);
        String was = Picture.part(Afternoon.busy(), part);
        changed |= !then.equals(was);
        TowField y = Afternoon.busy();
        y.image();
        change.accept(y);
        y.undo();
        keepTape(y);
        due.holds("change " + number + " is undone, part " + part, Picture.part(y, part).equals(was));
      }
      due.holds("change " + number + " can be seen", changed);
      number++;
    }
    TowField x = new TowField();
    x.feed(0, 3);
    x.sheet(1, 8, 2);
    x.image();
    x.feed(0, 1);
    x.sheet(1, 8, 7);
    x.sheet(2, 8, 1);
    x.wind(41);
    x.undo();
    due.is("THE TAPE isn't kept", x.count(11), 4);
    due.is("sheets aren't", x.check(1), 7);
    due.is("nor those that come", x.check(2), 1);
    due.is("nor status", x.status(-1), 1);
    x.wipe();
    x.undo();
    due.is("an empty TAPE stays empty", x.count(11), 0);
  }

  /** A text took what was on the tape, which no undo brings back. */
  private static void keepTape(TowField x) {
    if (x.count(11) == 0) {
      Due.feed(x, "7+wind");
    }
  }

  private static void undo(Due due) {
    for (int minute : new int[] {0, 1, 450, 900}) {
      TowField x = Edges.atMinute(minute);
      x.image();
      due.is("at once", x.undo(), minute);
      x.person(60, 0);
      due.is("then", x.undo(), minute);
      due.is("nobody", x.count(1), 0);
      x.winch();
      due.is("which stays", x.undo(), minute);
      due.is("no winch", x.count(2), 0);
    }
    TowField y = new TowField();
    y.image();
    y.run(5);
    y.image();
    y.run(5);
    due.is("the latest", y.undo(), 5);
    due.is("not the one before it", y.undo(), 5);
    y.run(100);
    due.is("from far behind", y.undo(), 5);
    TowField z = Edges.atMinute(900);
    z.image();
    due.is("900", z.undo(), 900);
    due.is("it stays full", z.run(1), Due.FULL);
    undoOfMovements(due);
    undoOfAll(due);
    undoAndAnew(due);
  }

  /** With as much of everything as there can be, the last of each comes back, too. */
  private static void undoOfAll(Due due) {
    for (int round = 0; round < 2; round++) {
      for (int part = 0; part < 3; part++) {
        String was = Picture.part(packed(round), part);
        TowField x = packed(round);
        x.image();
        changeAll(x);
        x.undo();
        due.holds("round " + round + ", part " + part, Picture.part(x, part).equals(was));
        TowField y = packed(round);
        changeAll(y);
        due.holds("the change can be seen, part " + part, !Picture.part(y, part).equals(was));
      }
    }
    due.is("one rope is OUT", packed(0).rope(2, 1, 0), 2);
    due.is("or BROKEN", packed(1).rope(2, 1, 1), 75);
    due.is("all planes are AWAY", packed(0).tow(2), 36);
    due.is("asks 0, 1, 2 are in the air", packed(0).ahead(0, 2), 7);
    due.is("18 can go", packed(0).next(), 2018);
    due.is("or else 19", packed(1).next(), 2019);
    undoOfCrossing(due);
  }

  /** Both ways: asked from either LANE, as one way put back would hide the other. */
  private static void undoOfCrossing(Due due) {
    for (int lane = 0; lane < 6; lane++) {
      for (int other = 0; other < 6; other++) {
        if (lane != other) {
          TowField x = new TowField();
          x.image();
          x.cross(lane, other, true);
          x.undo();
          due.is(lane + " and " + other + " don't CROSS again", x.cross(other, lane, false), 0);
        }
      }
    }
  }

  private static TowField packed(int round) {
    TowField x = Afternoon.packed();
    if (round > 0) {
      x.broken(2, 1);
    }
    return x;
  }

  private static void changeAll(TowField x) {
    for (int person = 0; person < 14; person++) {
      x.pay(person, 7);
      x.paper(person, 2, false);
    }
    for (int lane = 0; lane < 5; lane++) {
      x.cross(lane, lane + 1, true);
    }
    for (int i = 0; i < 4; i++) {
      x.lane(i, i + 2);
      x.rule(i, 3);
      x.link(i, false);
      x.link(i, i < 3);
    }
    x.back(17);
    x.run(100);
    x.wind(11);
  }

  /** Movements on three lanes, with ends of their own, come back as they were. */
  private static void undoOfMovements(Due due) {
    TowField x = Edges.pairs(3);
    x.plane();
    x.winch();
    x.rule(0, 7);
    x.lane(1, 5);
    x.ask(0, -1, 0, 205, 60);
    x.run(1);
    x.lane(1, 4);
    x.ask(1, -1, 1, 304, 60);
    x.run(1);
    x.image();
    // On 5 till 9, on 3 till 7, on 4 till 7 as well: all told by the last MINUTE in which it isn't clear.
    int[] last = {-1, -1, -1, 6, 6, 8};
    for (int round = 0; round < 2; round++) {
      due.is("three of them", x.count(13), 3);
      for (int minute = 2; minute <= 9; minute++) {
        for (int lane = 0; lane < 6; lane++) {
          due.is("lane " + lane + " in " + minute, x.clear(lane, 1), minute <= last[lane] ? 0 : 1);
        }
        x.run(1);
      }
      x.undo();
    }
  }

  /** What comes anew behind an undo has nothing of what had its number before. */
  private static void undoAndAnew(Due due) {
    TowField x = new TowField();
    x.image();
    x.person(70, 16);
    x.glider(1, 100, 1, 1);
    x.winch();
    x.plane();
    x.share(0, 99);
    x.ask(0, -1, 0, 14, 2);
    x.ask(0, -1, 0, 12, 60);
    x.run(7);
    x.undo();
    due.is("no rope is left", x.rope(0, 0, 0), BEYOND);
    x.person(50, 34);
    x.glider(2, 110, 3, 0);
    x.ask(0, -1, 0, 11, 7);
    due.is("nor one that is OUT", x.why(0), 10);
    x.ask(0, -1, 0, 15, 7);
    due.is("nor a plane", x.why(1), 10);
    x.winch();
    x.plane();
    int[] person = {50, 34, -1, 0, 0};
    int[] glider = {2, 110, 3, 0, 1};
    for (int what = 0; what < 5; what++) {
      due.is("a new person " + what, x.personIs(0, what), person[what]);
      due.is("a new glider " + what, x.gliderIs(0, what), glider[what]);
    }
    int[] ask = {0, -1, 0, 1, 1, 7, 0, -1, -1, -1};
    for (int what = 0; what < ask.length; what++) {
      due.is("a new ask " + what, x.askIs(0, what), ask[what]);
    }
    due.is("a new rope", x.rope(0, 1, 0), 0);
    due.is("its till", x.rope(0, 1, 1), -1);
    due.is("a new plane", x.tow(0), -1);
    due.is("no movement", x.count(13), 0);
    Due.text(x, 0, "!height");
    x.undo();
    Due.text(x, 0, "height");
    due.is("a shorter text", x.says(0, 7, 0, 0), 7);
  }

  private static void undoOfNothing(Due due) {
    due.is("at first", new TowField().undo(), Due.NONE);
    TowField x = Edges.atMinute(7);
    due.is("nothing kept", x.undo(), Due.NONE);
    due.is("nothing changes", x.count(10), 7);
    x.image();
    x.tear();
    due.is("torn", x.undo(), Due.NONE);
    x.image();
    due.is("kept again", x.undo(), 7);
  }

  private static void tear(Due due) {
    TowField x = new TowField();
    due.is("nothing was", x.tear(), 0);
    x.image();
    x.image();
    due.is("something was", x.tear(), 1);
    due.is("and is no more", x.tear(), 0);
    x.image();
    x.run(3);
    x.undo();
    due.is("undo left it", x.tear(), 1);
    x.run(3);
    due.is("the open MINUTE stays", x.count(10), 3);
  }

  private static void countThings(Due due) {
    TowField x = Edges.pairs(10);
    for (int i = 0; i < 4; i++) {
      x.person(60, 0);
      x.winch();
      x.plane();
    }
    for (int i = 0; i < 25; i++) {
      x.ask(0, -1, 0, 11, 1);
    }
    int[] most = {10, 14, 3, 3, 20};
    for (int what = 0; what < 5; what++) {
      due.is("none of " + what, new TowField().count(what), 0);
      due.is("all of " + what, x.count(what), most[what]);
    }
  }

  private static void countAsks(Due due) {
    TowField x = Edges.pairs(10);
    for (int i = 0; i < 20; i++) {
      x.ask(i % 10, -1, i % 10, 14, 60);
    }
    expectAsks(due, x, 20, 0, 0, 0);
    for (int i = 10; i < 20; i++) {
      x.back(i);
    }
    expectAsks(due, x, 10, 0, 0, 10);
    x.run(10);
    expectAsks(due, x, 0, 10, 0, 10);
    x.run(52);
    expectAsks(due, x, 0, 9, 1, 10);
    x.run(18);
    expectAsks(due, x, 0, 0, 10, 10);
  }

  private static void expectAsks(Due due, TowField x, int... counts) {
    for (int i = 0; i < 4; i++) {
      due.is("count(" + (5 + i) + ")", x.count(5 + i), counts[i]);
    }
  }

  private static void countTexts(Due due) {
    for (int many = 0; many <= 6; many++) {
      due.is("texts", Edges.withTexts(many).count(9), many);
    }
    for (int minute : new int[] {0, 1, 899, 900}) {
      due.is("the open MINUTE", Edges.atMinute(minute).count(10), minute);
    }
    for (int bytes : new int[] {0, 1, 99, 100}) {
      due.is("bytes", Edges.withTape(bytes).count(11), bytes);
    }
  }

  private static void countBills(Due due) {
    TowField x = Edges.pairs(10);
    due.is("none", x.count(12), 0);
    for (int i = 0; i < 10; i++) {
      x.share(i, 9999);
      due.is("together", x.count(12), 9999 * (i + 1));
    }
    x.pay(9, 9999);
    due.is("less what is paid", x.count(12), 9999 * 9);
    TowField y = Edges.oneAsk(2);
    y.share(0, 1);
    y.run(4);
    due.is("shares and costs", y.count(12), 15);
  }

  private static void countMovements(Due due) {
    // RETRIEVE of HEIGHT 30 in 0, till 11; fetching in 0, till 4; and one of SPAN 1, which is over when the next MINUTE is open.
    TowField x = Edges.pairs(2);
    x.plane();
    x.winch();
    x.ask(0, -1, 0, 305, 60);
    due.is("none yet", x.count(13), 0);
    x.run(1);
    due.is("two", x.count(13), 2);
    x.run(2);
    due.is("the last MINUTE of one", x.count(13), 2);
    x.run(1);
    due.is("one", x.count(13), 1);
    x.run(6);
    due.is("its last MINUTE", x.count(13), 1);
    x.ask(1, -1, 1, 14, 60);
    x.run(1);
    due.is("none", x.count(13), 0);
    x.run(1);
    due.is("one of a single MINUTE is over", x.count(13), 0);
    asManyAsCanBe(due);
  }

  /** One on each LANE: in each of three MINUTES a tow and a winch that is fetched, each on a LANE of its own. */
  private static void asManyAsCanBe(Due due) {
    TowField x = Edges.pairs(4);
    x.rule(0, 20);
    for (int i = 0; i < 3; i++) {
      x.plane();
      x.winch();
      x.lane(1, i);
      x.lane(3, 3 + i);
      x.ask(i, -1, i, 305, 60);
      x.run(1);
      due.is("two more", x.count(13), 2 * (i + 1));
    }
    x.ask(3, -1, 3, 14, 60);
    x.image();
    for (int lane = 0; lane < 6; lane++) {
      due.is("no LANE is clear, " + lane, x.clear(lane, 1), 0);
      x.lane(1, lane);
      due.is("nothing can start", x.why(3), 11);
    }
    x.undo();
    due.is("six are kept", x.count(13), 6);
    x.run(7);
    due.is("in 10", x.count(13), 6);
    x.run(3);
    due.is("in 13: the tows have ended", x.count(13), 3);
    x.run(6);
    due.is("in 19", x.count(13), 3);
    x.run(3);
    due.is("in 22: all have ended", x.count(13), 0);
  }

  private static void countBeyond(Due due) {
    Edges.range(due, "what", 0, 13, TowField::new, TowField::count);
    Edges.range(due, "what, of much", 0, 13, Afternoon::busy, TowField::count);
  }

  private static void everCounted(Due due) {
    TowField x = new TowField();
    for (int i = 1; i <= 200; i++) {
      x.wind(41);
      due.is("after " + i, x.status(-1), i);
      due.is("asking again counts none", x.status(0), i);
    }
    x.image();
    x.wind(41);
    x.undo();
    due.is("undo takes none back", x.status(-1), 201);
    x.tear();
    due.is("what is fine counts none", x.status(-1), 201);
    TowField y = new TowField();
    y.feed('$', 1);
    y.text(0);
    due.is("a FAULT is no finding", y.status(-1), 0);
    due.is("an object of its own", new TowField().status(-1), 0);
  }

  private static void eachFinding(Due due) {
    int[] order = {Due.BEYOND, Due.FULL, Due.KIND, Due.NONE, Due.STATE, Due.MISSING, Due.SIZE};
    TowField x = Edges.oneAsk(1);
    for (int i = 0; i < 3; i++) {
      x.plane();
    }
    for (int many = 1; many <= 3; many++) {
      int[] answers = {x.wind(41), x.plane(), x.as(0, 1), x.undo(), x.pay(0, 1), x.check(0), x.sheet(0, 8, -1)};
      for (int which = 0; which < order.length; which++) {
        due.is("the finding", answers[which], order[which]);
        due.is("status(" + which + ")", x.status(which), many);
      }
      due.is("all", x.status(-1), 7 * many);
    }
  }

  private static void statusBeyond(Due due) {
    Edges.range(due, "which", -1, 6, TowField::new, TowField::status);
    TowField x = new TowField();
    due.is("7", x.status(7), BEYOND);
    due.is("it is counted", x.status(0), 1);
    due.is("-2", x.status(-2), BEYOND);
    due.is("it is counted, too", x.status(-1), 2);
  }
}
