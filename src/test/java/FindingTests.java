import java.util.ArrayList;
import java.util.List;
import java.util.function.ToIntFunction;

/** A call that answers a finding changes nothing but status(), and status() counts just that one. */
public final class FindingTests {
  private static final Due due = new Due();
  private static final List<ToIntFunction<TowField>> calls = new ArrayList<>();

  public static void main(String[] args) {
    beyondInTheField();
    beyondOfAsksAndMinutes();
    beyondOfTextsAndSheets();
    others();
    int number = 0;
    for (ToIntFunction<TowField> call : calls) {
      expectNoChange(number, call, full());
      number++;
    }
    due.end();
  }

  /** Everything there is as often as can be; asks of all states, an image kept, sheets 0 and 1 there. */
  private static TowField full() {
    TowField x = new TowField();
    for (int i = 0; i < 14; i++) {
      x.person(60 + i, 126);
    }
    for (int i = 0; i < 10; i++) {
      x.glider(2, 200, i % 4, i == 9 ? 0 : 3 << i);
    }
    for (int i = 0; i < 3; i++) {
      x.winch();
      x.plane();
    }
    for (int i = 0; i < 20; i++) {
      x.ask(i % 14, -1, i % 10, 10 + 10 * (i % 3) + 1 + (i + 3) % 5, 1 + i);
    }
    for (int i = 0; i < 6; i++) {
      Due.text(x, i % 2, i % 2 == 0 ? "height > 29" : "minutes * 3 + wind");
    }
    x.back(19);
    x.share(0, 501);
    x.image();
    x.run(12);
    x.broken(1, 1);
    x.sheet(0, 8, 5);
    x.sheet(1, 16, 5);
    x.write(1, 3, 7);
    for (int i = 0; i < 100; i++) {
      x.feed('1', 1);
    }
    return x;
  }

  private static String pictureOf(TowField x) {
    StringBuilder out = new StringBuilder(Picture.of(x));
    out.append(x.check(0)).append(' ').append(x.check(1)).append(' ').append(x.force(0)).append(' ').append(x.force(1));
    return out.toString();
  }

  private static int[] findingsOf(TowField x) {
    int[] all = new int[8];
    for (int which = -1; which < 7; which++) {
      all[which + 1] = x.status(which);
    }
    return all;
  }

  private static void expectNoChange(int number, ToIntFunction<TowField> call, TowField x) {
    String before = pictureOf(x);
    int[] findings = findingsOf(x);
    int answer = call.applyAsInt(x);
    int[] then = findingsOf(x);
    due.holds("call " + number + " answers a finding", answer <= Due.BEYOND && answer >= Due.SIZE);
    int which = Due.BEYOND - answer;
    for (int i = -1; i < 7; i++) {
      int more = i == -1 || i == which ? 1 : 0;
      due.is("call " + number + " status(" + i + ")", then[i + 1], findings[i + 1] + more);
    }
    due.holds("call " + number + " changes nothing", pictureOf(x).equals(before));
    x.undo();
    due.is("call " + number + " leaves the image", x.count(10), 0);
  }

  private static void beyondInTheField() {
    calls.add(x -> x.glider(0, 100, 0, 0));
    calls.add(x -> x.glider(1, 100, 0, 1 << 14));
    calls.add(x -> x.person(131, 0));
    calls.add(x -> x.person(60, 1));
    calls.add(x -> x.gliderIs(10, 0));
    calls.add(x -> x.personIs(0, 5));
    calls.add(x -> x.paper(0, 7, false));
    calls.add(x -> x.rope(3, 0, 0));
    calls.add(x -> x.broken(0, 2));
    calls.add(x -> x.tow(3));
    calls.add(x -> x.cross(2, 2, true));
    calls.add(x -> x.cross(2, 6, true));
    calls.add(x -> x.lane(0, 6));
    calls.add(x -> x.wind(41));
    calls.add(x -> x.link(4, false));
    calls.add(x -> x.rule(0, 21));
    calls.add(x -> x.bound(6));
    calls.add(x -> x.span(0, 31));
  }

  private static void beyondOfAsksAndMinutes() {
    calls.add(x -> x.ask(0, 0, 0, 11, 1));
    calls.add(x -> x.askIs(20, 0));
    calls.add(x -> x.as(0, 6));
    calls.add(x -> x.back(20));
    calls.add(x -> x.why(-1));
    calls.add(x -> x.clear(0, 61));
    calls.add(x -> x.run(101));
    calls.add(x -> x.ahead(201, 0));
    calls.add(x -> x.late(11));
    calls.add(x -> x.check(4));
    calls.add(x -> x.share(0, 10000));
    calls.add(x -> x.pay(0, 0));
  }

  private static void beyondOfTextsAndSheets() {
    calls.add(x -> x.feed(1, 5));
    calls.add(x -> x.text(2));
    calls.add(x -> x.force(2));
    calls.add(x -> x.says(6, 0, 0, 0));
    calls.add(x -> x.sheet(0, 9, 1));
    calls.add(x -> x.sheet(0, 0, 25));
    calls.add(x -> x.write(0, 5, 1));
    calls.add(x -> x.copy(0, 0, 0, 1, 5));
    calls.add(x -> x.count(14));
    calls.add(x -> x.status(7));
    calls.add(x -> x.status(-2));
  }

  private static void others() {
    calls.add(x -> x.glider(1, 100, 0, 0));
    calls.add(x -> x.person(60, 0));
    calls.add(x -> x.winch());
    calls.add(x -> x.plane());
    calls.add(x -> x.ask(0, -1, 0, 11, 1));
    calls.add(x -> x.feed(1, 1));
    calls.add(x -> x.text(0));
    calls.add(x -> x.as(0, x.askIs(0, 3) == 3 ? 4 : 3));
    calls.add(x -> x.share(9, 1));
    calls.add(x -> x.broken(1, 1));
    calls.add(x -> x.back(19));
    calls.add(x -> x.why(19));
    calls.add(x -> x.pay(0, 99999));
    calls.add(x -> x.check(2));
    calls.add(x -> x.write(3, 0, 1));
    calls.add(x -> x.copy(0, 0, 2, 0, 1));
    calls.add(x -> x.copy(0, 0, 1, 0, 1));
    calls.add(x -> x.sheet(0, 8, -1));
    calls.add(x -> x.sheet(1, 0, -1));
  }
}
