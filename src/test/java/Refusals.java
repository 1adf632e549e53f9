import java.util.ArrayList;
import java.util.List;
import java.util.function.ToIntFunction;

/** Calls that are refused: each on a field of its own, with the finding that is due. */
final class Refusals {
  private static final int BEYOND = Due.BEYOND;
  private static final int FULL = Due.FULL;

  static final List<Refusals> ALL = new ArrayList<>();

  final Edges.Start start;
  final int finding;
  final ToIntFunction<TowField> call;

  private Refusals(Edges.Start start, int finding, ToIntFunction<TowField> call) {
    this.start = start;
    this.finding = finding;
    this.call = call;
  }

  static {
    field();
    people();
    ropesAndLanes();
    settings();
    asks();
    texts();
    minutes();
    bills();
    sheets();
    copies();
    nothingThere();
    nothingFree();
  }

  private static void add(Edges.Start start, int finding, ToIntFunction<TowField> call) {
    ALL.add(new Refusals(start, finding, call));
  }

  private static void busy(int finding, ToIntFunction<TowField> call) {
    add(Afternoon::busy, finding, call);
  }

  private static void field() {
    busy(BEYOND, x -> x.glider(0, 100, 0, 0));
    busy(BEYOND, x -> x.glider(3, 100, 0, 0));
    busy(BEYOND, x -> x.glider(1, 59, 0, 0));
    busy(BEYOND, x -> x.glider(1, 251, 0, 0));
    busy(BEYOND, x -> x.glider(1, 100, -1, 0));
    busy(BEYOND, x -> x.glider(1, 100, 4, 0));
    busy(BEYOND, x -> x.glider(1, 100, 0, 32));
    busy(BEYOND, x -> x.glider(1, 100, 0, -1));
    busy(BEYOND, x -> x.gliderIs(-1, 0));
    busy(BEYOND, x -> x.gliderIs(6, 0));
    busy(BEYOND, x -> x.gliderIs(0, -1));
    busy(BEYOND, x -> x.gliderIs(0, 5));
    busy(BEYOND, x -> x.tow(-1));
    busy(BEYOND, x -> x.tow(1));
    busy(BEYOND, x -> x.bound(-1));
    busy(BEYOND, x -> x.bound(6));
    busy(BEYOND, x -> x.span(-1, 1));
    busy(BEYOND, x -> x.span(6, 1));
    busy(BEYOND, x -> x.span(0, 0));
    busy(BEYOND, x -> x.span(0, 31));
  }

  private static void people() {
    busy(BEYOND, x -> x.person(39, 0));
    busy(BEYOND, x -> x.person(131, 0));
    busy(BEYOND, x -> x.person(60, 1));
    busy(BEYOND, x -> x.person(60, 128));
    busy(BEYOND, x -> x.person(60, -2));
    busy(BEYOND, x -> x.personIs(-1, 0));
    busy(BEYOND, x -> x.personIs(5, 0));
    busy(BEYOND, x -> x.personIs(0, -1));
    busy(BEYOND, x -> x.personIs(0, 5));
    busy(BEYOND, x -> x.paper(-1, 1, true));
    busy(BEYOND, x -> x.paper(5, 1, true));
    busy(BEYOND, x -> x.paper(0, 0, true));
    busy(BEYOND, x -> x.paper(0, 7, true));
    busy(BEYOND, x -> x.paper(0, 7, false));
    busy(BEYOND, x -> x.paper(0, 33, false));
  }

  private static void ropesAndLanes() {
    busy(BEYOND, x -> x.rope(-1, 0, 0));
    busy(BEYOND, x -> x.rope(2, 0, 0));
    busy(BEYOND, x -> x.rope(0, -1, 0));
    busy(BEYOND, x -> x.rope(0, 2, 0));
    busy(BEYOND, x -> x.rope(0, 0, -1));
    busy(BEYOND, x -> x.rope(0, 0, 2));
    busy(BEYOND, x -> x.broken(-1, 0));
    busy(BEYOND, x -> x.broken(2, 0));
    busy(BEYOND, x -> x.broken(0, -1));
    busy(BEYOND, x -> x.broken(0, 2));
    busy(Due.STATE, x -> x.broken(1, 1));
    busy(BEYOND, x -> x.cross(-1, 0, true));
    busy(BEYOND, x -> x.cross(6, 0, true));
    busy(BEYOND, x -> x.cross(0, -1, true));
    busy(BEYOND, x -> x.cross(0, 6, true));
    busy(BEYOND, x -> x.cross(3, 3, true));
    busy(BEYOND, x -> x.cross(3, 3, false));
    busy(BEYOND, x -> x.lane(-1, 0));
    busy(BEYOND, x -> x.lane(4, 0));
    busy(BEYOND, x -> x.lane(0, -1));
    busy(BEYOND, x -> x.lane(0, 6));
    busy(BEYOND, x -> x.clear(-1, 1));
    busy(BEYOND, x -> x.clear(6, 1));
    busy(BEYOND, x -> x.clear(0, 0));
    busy(BEYOND, x -> x.clear(0, 61));
  }

  private static void settings() {
    busy(BEYOND, x -> x.wind(-1));
    busy(BEYOND, x -> x.wind(41));
    busy(BEYOND, x -> x.link(-1, false));
    busy(BEYOND, x -> x.link(4, false));
    busy(BEYOND, x -> x.link(32, false));
    busy(BEYOND, x -> x.rule(-1, 1));
    busy(BEYOND, x -> x.rule(4, 1));
    busy(BEYOND, x -> x.rule(0, 0));
    busy(BEYOND, x -> x.rule(0, 21));
    busy(BEYOND, x -> x.rule(1, -1));
    busy(BEYOND, x -> x.rule(1, 901));
    busy(BEYOND, x -> x.rule(2, 0));
    busy(BEYOND, x -> x.rule(2, 61));
    busy(BEYOND, x -> x.rule(3, -1));
    busy(BEYOND, x -> x.rule(3, 21));
    busy(BEYOND, x -> x.count(-1));
    busy(BEYOND, x -> x.count(14));
    busy(BEYOND, x -> x.status(-2));
    busy(BEYOND, x -> x.status(7));
  }

  private static void asks() {
    busy(BEYOND, x -> x.ask(-1, -1, 0, 11, 1));
    busy(BEYOND, x -> x.ask(5, -1, 0, 11, 1));
    busy(BEYOND, x -> x.ask(0, -2, 0, 11, 1));
    busy(BEYOND, x -> x.ask(0, 5, 0, 11, 1));
    busy(BEYOND, x -> x.ask(0, 0, 0, 11, 1));
    busy(BEYOND, x -> x.ask(0, -1, -1, 11, 1));
    busy(BEYOND, x -> x.ask(0, -1, 6, 11, 1));
    busy(BEYOND, x -> x.ask(0, -1, 0, 10, 1));
    busy(BEYOND, x -> x.ask(0, -1, 0, 16, 1));
    busy(BEYOND, x -> x.ask(0, -1, 0, 1, 1));
    busy(BEYOND, x -> x.ask(0, -1, 0, 311, 1));
    busy(BEYOND, x -> x.ask(0, -1, 0, 11, 0));
    busy(BEYOND, x -> x.ask(0, -1, 0, 11, 61));
    busy(BEYOND, x -> x.askIs(-1, 0));
    busy(BEYOND, x -> x.askIs(6, 0));
    busy(BEYOND, x -> x.askIs(0, -1));
    busy(BEYOND, x -> x.askIs(0, 10));
    busy(BEYOND, x -> x.as(-1, 0));
    busy(BEYOND, x -> x.as(6, 0));
    busy(BEYOND, x -> x.as(0, -1));
    busy(BEYOND, x -> x.as(0, 6));
    busy(Due.KIND, x -> x.as(0, 1));
    busy(Due.KIND, x -> x.as(1, 4));
    busy(BEYOND, x -> x.back(-1));
    busy(BEYOND, x -> x.back(6));
    busy(Due.STATE, x -> x.back(0));
    busy(Due.STATE, x -> x.back(1));
    busy(Due.STATE, x -> x.back(4));
    busy(BEYOND, x -> x.why(-1));
    busy(BEYOND, x -> x.why(6));
    busy(Due.STATE, x -> x.why(0));
    busy(Due.STATE, x -> x.why(1));
    busy(Due.STATE, x -> x.why(4));
  }

  private static void texts() {
    busy(BEYOND, x -> x.feed('1', 0));
    busy(BEYOND, x -> x.feed('1', 5));
    busy(BEYOND, x -> x.feed('1', -1));
    busy(BEYOND, x -> x.text(-1));
    busy(BEYOND, x -> x.text(2));
    busy(BEYOND, x -> x.force(-1));
    busy(BEYOND, x -> x.force(2));
    busy(BEYOND, x -> x.says(-1, 0, 0, 0));
    busy(BEYOND, x -> x.says(2, 0, 0, 0));
  }

  private static void minutes() {
    busy(BEYOND, x -> x.run(0));
    busy(BEYOND, x -> x.run(101));
    busy(BEYOND, x -> x.ahead(-1, 0));
    busy(BEYOND, x -> x.ahead(201, 0));
    busy(BEYOND, x -> x.ahead(9, -1));
    busy(BEYOND, x -> x.ahead(9, 4));
    busy(BEYOND, x -> x.late(4));
    busy(BEYOND, x -> x.late(206));
    busy(BEYOND, x -> x.check(-1));
    busy(BEYOND, x -> x.check(4));
    busy(Due.MISSING, x -> x.check(2));
  }

  private static void bills() {
    busy(BEYOND, x -> x.share(-1, 1));
    busy(BEYOND, x -> x.share(6, 1));
    busy(BEYOND, x -> x.share(0, -1));
    busy(BEYOND, x -> x.share(0, 10000));
    busy(Due.NONE, x -> x.share(5, 1));
    busy(BEYOND, x -> x.pay(-1, 1));
    busy(BEYOND, x -> x.pay(5, 1));
    busy(BEYOND, x -> x.pay(1, 0));
    busy(BEYOND, x -> x.pay(1, -1));
    busy(BEYOND, x -> x.pay(1, 100000));
    busy(Due.STATE, x -> x.pay(1, 51));
    busy(Due.STATE, x -> x.pay(2, 1));
  }

  private static void sheets() {
    busy(BEYOND, x -> x.sheet(-1, 8, 1));
    busy(BEYOND, x -> x.sheet(4, 8, 1));
    busy(BEYOND, x -> x.sheet(0, -8, 1));
    busy(BEYOND, x -> x.sheet(0, 9, 1));
    busy(BEYOND, x -> x.sheet(0, 8, 25));
    busy(BEYOND, x -> x.sheet(0, 0, 25));
    busy(Due.SIZE, x -> x.sheet(0, 8, -1));
    busy(Due.SIZE, x -> x.sheet(0, 0, -1));
    busy(Due.SIZE, x -> x.sheet(2, 32, Integer.MIN_VALUE));
    busy(BEYOND, x -> x.write(-1, 0, 1));
    busy(BEYOND, x -> x.write(4, 0, 1));
    busy(BEYOND, x -> x.write(0, -1, 1));
    busy(BEYOND, x -> x.write(0, 5, 1));
    busy(BEYOND, x -> x.write(3, 0, 1));
    busy(Due.MISSING, x -> x.write(2, 0, 1));
  }

  private static void copies() {
    busy(BEYOND, x -> x.copy(-1, 0, 0, 0, 1));
    busy(BEYOND, x -> x.copy(4, 0, 0, 0, 1));
    busy(BEYOND, x -> x.copy(0, 0, -1, 0, 1));
    busy(BEYOND, x -> x.copy(0, 0, 4, 0, 1));
    busy(Due.MISSING, x -> x.copy(0, 0, 2, 0, 1));
    busy(Due.MISSING, x -> x.copy(2, 0, 0, 0, 1));
    busy(Due.KIND, x -> x.copy(0, 0, 1, 0, 1));
    busy(Due.KIND, x -> x.copy(1, 0, 0, 0, 1));
    busy(BEYOND, x -> x.copy(0, -1, 0, 0, 1));
    busy(BEYOND, x -> x.copy(0, 4, 0, -1, 1));
    busy(BEYOND, x -> x.copy(0, 4, 0, 0, -1));
    busy(BEYOND, x -> x.copy(0, 4, 0, 0, 2));
    busy(BEYOND, x -> x.copy(0, 3, 0, 4, 2));
    busy(BEYOND, x -> x.copy(0, 4, 3, 0, 1));
    busy(BEYOND, x -> x.copy(3, 0, 0, 0, 1));
    busy(BEYOND, x -> x.copy(0, 1, 0, 0, Integer.MAX_VALUE));
    busy(BEYOND, x -> x.copy(0, Integer.MAX_VALUE, 0, 0, 1));
  }

  private static void nothingThere() {
    Edges.Start empty = TowField::new;
    add(empty, BEYOND, x -> x.glider(1, 100, 0, 1));
    add(empty, BEYOND, x -> x.gliderIs(0, 0));
    add(empty, BEYOND, x -> x.personIs(0, 0));
    add(empty, BEYOND, x -> x.paper(0, 1, true));
    add(empty, BEYOND, x -> x.rope(0, 0, 0));
    add(empty, BEYOND, x -> x.broken(0, 0));
    add(empty, BEYOND, x -> x.tow(0));
    add(empty, BEYOND, x -> x.ask(0, -1, 0, 11, 1));
    add(empty, BEYOND, x -> x.askIs(0, 0));
    add(empty, BEYOND, x -> x.as(0, 0));
    add(empty, BEYOND, x -> x.back(0));
    add(empty, BEYOND, x -> x.why(0));
    add(empty, BEYOND, x -> x.says(0, 0, 0, 0));
    add(empty, BEYOND, x -> x.share(0, 1));
    add(empty, BEYOND, x -> x.pay(0, 1));
    add(empty, Due.NONE, x -> x.force(0));
    add(empty, Due.NONE, x -> x.force(1));
    add(empty, Due.NONE, x -> x.undo());
    for (int s = 0; s < 4; s++) {
      int sheet = s;
      add(empty, Due.MISSING, x -> x.check(sheet));
      add(empty, Due.MISSING, x -> x.write(sheet, 0, 1));
      add(empty, Due.MISSING, x -> x.copy(sheet, 0, sheet, 0, 0));
    }
  }

  private static void nothingFree() {
    Edges.Start full = Afternoon::full;
    add(full, FULL, x -> x.glider(1, 100, 0, 0));
    add(full, FULL, x -> x.person(60, 0));
    add(full, FULL, x -> x.winch());
    add(full, FULL, x -> x.plane());
    add(full, FULL, x -> x.ask(0, -1, 0, 11, 1));
    add(full, FULL, x -> x.feed('1', 1));
    add(full, FULL, x -> x.feed('1', 4));
    add(full, FULL, x -> x.text(0));
    add(full, FULL, x -> x.text(1));
    add(full, FULL, x -> x.run(1));
    add(full, FULL, x -> x.run(100));
    // What is asked ahead of FULL.
    add(full, BEYOND, x -> x.glider(1, 100, 4, 0));
    add(full, BEYOND, x -> x.glider(1, 100, 0, 16384));
    add(full, BEYOND, x -> x.person(39, 0));
    add(full, BEYOND, x -> x.person(60, 128));
    add(full, BEYOND, x -> x.ask(14, -1, 0, 11, 1));
    add(full, BEYOND, x -> x.ask(0, 0, 0, 11, 1));
    add(full, BEYOND, x -> x.ask(0, -1, 10, 11, 1));
    add(full, BEYOND, x -> x.ask(0, -1, 0, 10, 1));
    add(full, BEYOND, x -> x.ask(0, -1, 0, 11, 61));
    add(full, BEYOND, x -> x.feed('1', 5));
    add(full, BEYOND, x -> x.text(2));
    add(full, BEYOND, x -> x.run(101));
    add(full, BEYOND, x -> x.late(899));
    add(full, BEYOND, x -> x.late(1101));
  }
}
