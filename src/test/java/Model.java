import java.util.ArrayList;
import java.util.Arrays;
import java.util.Comparator;
import java.util.List;

/**
 * The document once more, written as plainly as can be and unlike the program: lists of objects, states that
 * are worked out from the asks, movements that are never forgotten, texts worked out from their signs.
 */
final class Model {
  static final class Glider {
    int seats;
    int most;
    int link;
    int owners;
  }

  static final class Person {
    int weight;
    int papers;
    int last = -1;
    int bill;
  }

  static final class Rope {
    int state;
    int till = -1;
  }

  static final class Ask {
    int person;
    int with;
    int glider;
    int kind;
    int height;
    int minutes;
    int state;
    int started = -1;
    int down = -1;
    int cost = -1;
  }

  static final class Movement {
    int lane;
    int from;
    int end;
  }

  static final class State {
    int minute;
    int wind;
    int links = 15;
    int[] rules = {4, 0, 10, 2};
    int[] lanes = {0, 1, 2, 3};
    boolean[][] cross = new boolean[6][6];
    List<Glider> gliders = new ArrayList<>();
    List<Person> people = new ArrayList<>();
    List<Rope[]> winches = new ArrayList<>();
    List<Integer> planes = new ArrayList<>();
    List<Ask> asks = new ArrayList<>();
    List<Movement> movements = new ArrayList<>();
    List<String> texts = new ArrayList<>();
    int[] force = {-1, -1};

    State copy() {
      State s = new State();
      s.minute = minute;
      s.wind = wind;
      s.links = links;
      s.rules = rules.clone();
      s.lanes = lanes.clone();
      s.force = force.clone();
      for (int i = 0; i < 6; i++) {
        s.cross[i] = cross[i].clone();
      }
      for (Glider g : gliders) {
        Glider h = new Glider();
        h.seats = g.seats;
        h.most = g.most;
        h.link = g.link;
        h.owners = g.owners;
        s.gliders.add(h);
      }
      for (Person p : people) {
        Person q = new Person();
        q.weight = p.weight;
        q.papers = p.papers;
        q.last = p.last;
        q.bill = p.bill;
        s.people.add(q);
      }
      for (Rope[] w : winches) {
        Rope[] v = {new Rope(), new Rope()};
        for (int i = 0; i < 2; i++) {
          v[i].state = w[i].state;
          v[i].till = w[i].till;
        }
        s.winches.add(v);
      }
      for (Ask a : asks) {
        s.asks.add(copyOf(a));
      }
      s.planes.addAll(planes);
      s.movements.addAll(movements);
      s.texts.addAll(texts);
      return s;
    }

    private static Ask copyOf(Ask a) {
      Ask b = new Ask();
      b.person = a.person;
      b.with = a.with;
      b.glider = a.glider;
      b.kind = a.kind;
      b.height = a.height;
      b.minutes = a.minutes;
      b.state = a.state;
      b.started = a.started;
      b.down = a.down;
      b.cost = a.cost;
      return b;
    }
  }

  private State s = new State();
  private State kept = null;
  private final StringBuilder tape = new StringBuilder();
  private final int[][] sheets = new int[4][];
  private final int[] bits = new int[4];
  private final int[] findings = new int[7];

  private int find(int finding) {
    findings[-1000001 - finding]++;
    return finding;
  }

  private static boolean out(int v, int least, int most) {
    return v < least || v > most;
  }

  int glider(int seats, int most, int link, int owners) {
    if (out(seats, 1, 2) || out(most, 60, 250) || out(link, 0, 3) || out(owners, 0, (1 << s.people.size()) - 1)) {
      return find(Due.BEYOND);
    }
    if (s.gliders.size() == 10) {
      return find(Due.FULL);
    }
    Glider g = new Glider();
    g.seats = seats;
    g.most = most;
    g.link = link;
    g.owners = owners;
    s.gliders.add(g);
    return s.gliders.size() - 1;
  }

  int person(int weight, int papers) {
    if (out(weight, 40, 130) || out(papers, 0, 127) || papers % 2 != 0) {
      return find(Due.BEYOND);
    }
    if (s.people.size() == 14) {
      return find(Due.FULL);
    }
    Person p = new Person();
    p.weight = weight;
    p.papers = papers;
    s.people.add(p);
    return s.people.size() - 1;
  }

  int winch() {
    if (s.winches.size() == 3) {
      return find(Due.FULL);
    }
    s.winches.add(new Rope[] {new Rope(), new Rope()});
    return s.winches.size() - 1;
  }

  int plane() {
    if (s.planes.size() == 3) {
      return find(Due.FULL);
    }
    s.planes.add(-1);
    return s.planes.size() - 1;
  }

  private boolean gliderIsUp(int glider) {
    return s.asks.stream().anyMatch(a -> a.state == 1 && a.glider == glider);
  }

  private boolean personIsUp(int person) {
    return s.asks.stream().anyMatch(a -> a.state == 1 && (a.person == person || a.with == person));
  }

  int gliderIs(int glider, int what) {
    if (out(glider, 0, s.gliders.size() - 1) || out(what, 0, 4)) {
      return find(Due.BEYOND);
    }
    Glider g = s.gliders.get(glider);
    return new int[] {g.seats, g.most, g.link, g.owners, gliderIsUp(glider) ? 0 : 1}[what];
  }

  int personIs(int person, int what) {
    if (out(person, 0, s.people.size() - 1) || out(what, 0, 4)) {
      return find(Due.BEYOND);
    }
    Person p = s.people.get(person);
    return new int[] {p.weight, p.papers, p.last, p.bill, personIsUp(person) ? 1 : 0}[what];
  }

  int paper(int person, int kind, boolean has) {
    if (out(person, 0, s.people.size() - 1) || out(kind, 1, 6)) {
      return find(Due.BEYOND);
    }
    Person p = s.people.get(person);
    if (has(p, kind) == has) {
      return 0;
    }
    p.papers += has ? 1 << kind : -(1 << kind);
    return 1;
  }

  private static boolean has(Person p, int kind) {
    return (p.papers & 1 << kind) != 0;
  }

  int rope(int winch, int rope, int what) {
    if (out(winch, 0, s.winches.size() - 1) || out(rope, 0, 1) || out(what, 0, 1)) {
      return find(Due.BEYOND);
    }
    Rope r = s.winches.get(winch)[rope];
    if (what == 0) {
      return r.state;
    }
    return r.state == 1 || r.state == 3 ? r.till : -1;
  }

  int broken(int winch, int rope) {
    if (out(winch, 0, s.winches.size() - 1) || out(rope, 0, 1)) {
      return find(Due.BEYOND);
    }
    Rope r = s.winches.get(winch)[rope];
    if (r.state == 3) {
      return find(Due.STATE);
    }
    r.state = 3;
    r.till = s.minute + s.rules[2];
    return r.till;
  }

  int tow(int plane) {
    return out(plane, 0, s.planes.size() - 1) ? find(Due.BEYOND) : s.planes.get(plane);
  }

  int cross(int lane, int other, boolean is) {
    if (out(lane, 0, 5) || out(other, 0, 5) || lane == other) {
      return find(Due.BEYOND);
    }
    boolean was = s.cross[lane][other];
    s.cross[lane][other] = is;
    s.cross[other][lane] = is;
    return was == is ? 0 : 1;
  }

  int lane(int what, int lane) {
    if (out(what, 0, 3) || out(lane, 0, 5)) {
      return find(Due.BEYOND);
    }
    int was = s.lanes[what];
    s.lanes[what] = lane;
    return was;
  }

  int wind(int v) {
    if (out(v, 0, 40)) {
      return find(Due.BEYOND);
    }
    int was = s.wind;
    s.wind = v;
    return was;
  }

  int link(int link, boolean is) {
    if (out(link, 0, 3)) {
      return find(Due.BEYOND);
    }
    boolean was = (s.links >> link & 1) == 1;
    if (was != is) {
      s.links ^= 1 << link;
    }
    return was == is ? 0 : 1;
  }

  int rule(int which, int v) {
    int[][] ranges = {{1, 20}, {0, 900}, {1, 60}, {0, 20}};
    if (out(which, 0, 3) || out(v, ranges[which][0], ranges[which][1])) {
      return find(Due.BEYOND);
    }
    int was = s.rules[which];
    s.rules[which] = v;
    return was;
  }

  private static final int[] BOUNDS = {25, 20, 25, 10, 15, 28};

  int bound(int kind) {
    return out(kind, 0, 5) ? find(Due.BEYOND) : BOUNDS[kind];
  }

  private static int spanOf(int kind, int height) {
    int tow = 1 + height / 5;
    return new int[] {1, 2, tow, 4, tow == 1 ? 1 : tow - 1, tow + 4}[kind];
  }

  int span(int kind, int height) {
    return out(kind, 0, 5) || out(height, 1, 30) ? find(Due.BEYOND) : spanOf(kind, height);
  }

  int ask(int person, int with, int glider, int how, int minutes) {
    if (out(person, 0, s.people.size() - 1) || out(with, -1, s.people.size() - 1) || with == person) {
      return find(Due.BEYOND);
    }
    if (out(glider, 0, s.gliders.size() - 1) || out(how, 11, 305) || out(how % 10, 1, 5) || out(minutes, 1, 60)) {
      return find(Due.BEYOND);
    }
    if (s.asks.size() == 20) {
      return find(Due.FULL);
    }
    Ask a = new Ask();
    a.person = person;
    a.with = with;
    a.glider = glider;
    a.kind = how % 10;
    a.height = how / 10;
    a.minutes = minutes;
    s.asks.add(a);
    return s.asks.size() - 1;
  }

  int askIs(int ask, int what) {
    if (out(ask, 0, s.asks.size() - 1) || out(what, 0, 9)) {
      return find(Due.BEYOND);
    }
    Ask a = s.asks.get(ask);
    int[] all = {a.person, a.with, a.glider, a.kind, a.height, a.minutes, a.state, a.started, a.down, a.cost};
    return all[what];
  }

  int as(int ask, int kind) {
    if (out(ask, 0, s.asks.size() - 1) || out(kind, 0, 5)) {
      return find(Due.BEYOND);
    }
    String[] under = {"", "01", "02", "013", "024", "025"};
    return under[s.asks.get(ask).kind].indexOf('0' + kind) >= 0 ? ask : find(Due.KIND);
  }

  int back(int ask) {
    if (out(ask, 0, s.asks.size() - 1)) {
      return find(Due.BEYOND);
    }
    if (s.asks.get(ask).state != 0) {
      return find(Due.STATE);
    }
    s.asks.get(ask).state = 3;
    return 1;
  }

  int why(int ask) {
    if (out(ask, 0, s.asks.size() - 1)) {
      return find(Due.BEYOND);
    }
    return s.asks.get(ask).state != 0 ? find(Due.STATE) : whyOf(s.asks.get(ask));
  }

  private int whyOf(Ask a) {
    Glider g = s.gliders.get(a.glider);
    Person p = s.people.get(a.person);
    Person w = a.with < 0 ? null : s.people.get(a.with);
    boolean teacher = w != null && has(w, 6);
    int rule = s.rules[1];
    boolean[] reasons = {
      false,
      gliderIsUp(a.glider),
      w != null && g.seats == 1,
      p.weight + (w == null ? 0 : w.weight) > g.most,
      !has(p, a.kind) && !(teacher && has(w, a.kind)),
      rule > 0 && (p.last == -1 || s.minute - p.last > rule) && !teacher,
      s.wind > BOUNDS[a.kind],
      (s.links >> g.link & 1) == 0,
      personIsUp(a.person) || (w != null && personIsUp(a.with)),
      s.force[0] >= 0 && Formula.value(s.texts.get(s.force[0]), a.height, a.minutes, a.kind, s.wind) != 0,
      !hasGear(a.kind),
      !isClear(laneOf(a), spanOf(a.kind, a.height)),
    };
    for (int i = 0; i < reasons.length; i++) {
      if (reasons[i]) {
        return i;
      }
    }
    return 0;
  }

  private int laneOf(Ask a) {
    return s.lanes[a.kind == 1 || a.kind == 3 ? 0 : 1];
  }

  private boolean hasGear(int kind) {
    switch (kind) {
      case 1:
        return s.winches.stream().anyMatch(w -> w[0].state == 2 || w[1].state == 2);
      case 3:
        return s.winches.stream().anyMatch(w -> w[0].state == 2 && w[1].state == 2);
      case 4:
        return true;
      default:
        return s.planes.contains(-1);
    }
  }

  private boolean isClear(int lane, int n) {
    for (int minute = s.minute; minute < s.minute + n; minute++) {
      for (Movement m : s.movements) {
        if ((m.lane == lane || s.cross[m.lane][lane]) && m.from <= minute && minute < m.end) {
          return false;
        }
      }
    }
    return true;
  }

  int clear(int lane, int n) {
    return out(lane, 0, 5) || out(n, 1, 60) ? find(Due.BEYOND) : isClear(lane, n) ? 1 : 0;
  }

  private int dueOf(Ask a) {
    return a.started + spanOf(a.kind, a.height) + Math.max(a.minutes, s.rules[3]);
  }

  private List<Ask> dues() {
    List<Ask> dues = new ArrayList<>();
    for (Ask a : s.asks) {
      if (a.state == 1 && dueOf(a) <= s.minute) {
        dues.add(a);
      }
    }
    dues.sort(Comparator.comparingInt(this::dueOf));
    return dues;
  }

  int next() {
    for (Ask a : dues()) {
      if (isClear(s.lanes[2], 2)) {
        return 1000 + s.asks.indexOf(a);
      }
    }
    for (Ask a : s.asks) {
      if (a.state == 0 && whyOf(a) == 0) {
        return 2000 + s.asks.indexOf(a);
      }
    }
    for (Rope[] w : s.winches) {
      if ((w[0].state == 0 || w[1].state == 0) && isClear(s.lanes[3], s.rules[0])) {
        return 3000 + s.winches.indexOf(w);
      }
    }
    return 0;
  }

  int feed(int bytes, int n) {
    if (out(n, 1, 4)) {
      return find(Due.BEYOND);
    }
    if (tape.length() + n > 100) {
      return find(Due.FULL);
    }
    for (int i = 4 - n; i < 4; i++) {
      tape.append((char) (bytes >>> 24 - 8 * i & 255));
    }
    return tape.length();
  }

  int wipe() {
    int was = tape.length();
    tape.setLength(0);
    return was;
  }

  int text(int use) {
    if (out(use, 0, 1)) {
      return find(Due.BEYOND);
    }
    if (s.texts.size() == 6) {
      return find(Due.FULL);
    }
    String text = tape.toString();
    tape.setLength(0);
    int fault = Formula.fault(text);
    if (fault >= 0) {
      return -1 - fault;
    }
    s.texts.add(text);
    s.force[use] = s.texts.size() - 1;
    return s.force[use];
  }

  int force(int use) {
    if (out(use, 0, 1)) {
      return find(Due.BEYOND);
    }
    return s.force[use] < 0 ? find(Due.NONE) : s.force[use];
  }

  int says(int text, int height, int minutes, int kind) {
    if (out(text, 0, s.texts.size() - 1)) {
      return find(Due.BEYOND);
    }
    return Formula.value(s.texts.get(text), height, minutes, kind, s.wind);
  }

  private void move(int use, int n, int lane) {
    Movement m = new Movement();
    m.lane = use < 0 ? lane : s.lanes[use];
    m.from = s.minute;
    m.end = s.minute + n;
    s.movements.add(m);
  }

  /** Launches, and 100 for each landing. */
  private int minute() {
    int went = 0;
    for (Ask a : dues()) {
      if (isClear(s.lanes[2], 2)) {
        land(a);
        went += 100;
      }
    }
    for (Ask a : s.asks) {
      if (a.state == 0 && whyOf(a) == 0) {
        start(a);
        went++;
        break;
      }
    }
    for (Rope[] w : s.winches) {
      if ((w[0].state == 0 || w[1].state == 0) && isClear(s.lanes[3], s.rules[0])) {
        for (Rope r : w) {
          if (r.state == 0) {
            r.state = 1;
            r.till = s.minute + s.rules[0];
          }
        }
        move(3, s.rules[0], -1);
      }
    }
    s.minute++;
    for (Rope[] w : s.winches) {
      for (Rope r : w) {
        if (r.till == s.minute && (r.state == 1 || r.state == 3)) {
          r.state = r.state == 1 ? 2 : 0;
        }
      }
    }
    s.planes.replaceAll(till -> till == s.minute ? -1 : till);
    return went;
  }

  private void land(Ask a) {
    int span = spanOf(a.kind, a.height);
    int air = s.minute - (a.started + span);
    long cost = 10 * span + 2 * a.height + air;
    if (s.force[1] >= 0) {
      cost = Formula.value(s.texts.get(s.force[1]), a.height, air, a.kind, s.wind);
    }
    a.cost = (int) (cost < 0 ? 0 : cost > 9999 ? 9999 : cost);
    a.state = 2;
    a.down = s.minute;
    s.people.get(a.person).bill += a.cost;
    s.people.get(a.person).last = s.minute;
    if (a.with >= 0) {
      s.people.get(a.with).last = s.minute;
    }
    move(2, 2, -1);
  }

  private void start(Ask a) {
    int span = spanOf(a.kind, a.height);
    move(-1, span, laneOf(a));
    a.state = 1;
    a.started = s.minute;
    if (a.kind == 1) {
      Rope rope = s.winches.stream().flatMap(Arrays::stream).filter(r -> r.state == 2).findFirst().get();
      rope.state = 0;
    } else if (a.kind == 3) {
      Rope[] ropes = s.winches.stream().filter(w -> w[0].state == 2 && w[1].state == 2).findFirst().get();
      ropes[0].state = 0;
      ropes[1].state = 0;
    } else if (a.kind != 4) {
      s.planes.set(s.planes.indexOf(-1), s.minute + 2 * span);
    }
  }

  int run(int n) {
    if (out(n, 1, 100)) {
      return find(Due.BEYOND);
    }
    if (s.minute + n > 900) {
      return find(Due.FULL);
    }
    for (int i = 0; i < n; i++) {
      minute();
    }
    return s.minute;
  }

  private int setOf(State of, int state) {
    int set = 0;
    for (int i = 0; i < of.asks.size(); i++) {
      set += of.asks.get(i).state == state ? 1 << i : 0;
    }
    return set;
  }

  int ahead(int n, int what) {
    if (out(n, 0, 200) || out(what, 0, 3)) {
      return find(Due.BEYOND);
    }
    State before = s;
    s = s.copy();
    int went = 0;
    for (int i = 0; i < n; i++) {
      went += minute();
    }
    int[] all = {went % 100, went / 100, setOf(s, 1), setOf(s, 0)};
    s = before;
    return all[what];
  }

  int late(int minute) {
    if (minute < s.minute || minute - 200 > s.minute) {
      return find(Due.BEYOND);
    }
    State before = s;
    s = s.copy();
    while (s.minute <= minute) {
      minute();
    }
    int late = setOf(s, 0);
    s = before;
    return late;
  }

  int check(int sheet) {
    if (out(sheet, 0, 3)) {
      return find(Due.BEYOND);
    }
    if (sheets[sheet] == null) {
      return find(Due.MISSING);
    }
    State before = s;
    s = s.copy();
    int place = 0;
    for (int number : sheets[sheet]) {
      int went = minute();
      if (number != went % 100 + went / 100 * 10) {
        break;
      }
      place++;
    }
    s = before;
    return place;
  }

  int share(int glider, int sum) {
    if (out(glider, 0, s.gliders.size() - 1) || out(sum, 0, 9999)) {
      return find(Due.BEYOND);
    }
    List<Person> owners = new ArrayList<>();
    for (int i = 0; i < 14; i++) {
      if ((s.gliders.get(glider).owners >> i & 1) == 1) {
        owners.add(s.people.get(i));
      }
    }
    if (owners.isEmpty()) {
      return find(Due.NONE);
    }
    int each = sum / owners.size();
    for (Person p : owners) {
      p.bill += each;
    }
    for (int i = 0; i < sum - each * owners.size(); i++) {
      owners.get(i).bill++;
    }
    return owners.size();
  }

  int pay(int person, int coins) {
    if (out(person, 0, s.people.size() - 1) || out(coins, 1, 99999)) {
      return find(Due.BEYOND);
    }
    Person p = s.people.get(person);
    if (p.bill < coins) {
      return find(Due.STATE);
    }
    p.bill -= coins;
    return p.bill;
  }

  int sheet(int sheet, int bitsOf, int n) {
    if (out(sheet, 0, 3) || (bitsOf != 0 && bitsOf != 8 && bitsOf != 16 && bitsOf != 32)) {
      return find(Due.BEYOND);
    }
    if (n < 0) {
      return find(Due.SIZE);
    }
    if (n > 24) {
      return find(Due.BEYOND);
    }
    bits[sheet] = bitsOf;
    sheets[sheet] = bitsOf == 0 ? null : new int[n];
    return bitsOf == 0 ? 0 : n;
  }

  int write(int sheet, int i, int v) {
    if (out(sheet, 0, 3)) {
      return find(Due.BEYOND);
    }
    if (sheets[sheet] == null) {
      return find(Due.MISSING);
    }
    if (out(i, 0, sheets[sheet].length - 1)) {
      return find(Due.BEYOND);
    }
    int away = 32 - bits[sheet];
    sheets[sheet][i] = v << away >> away;
    return 1;
  }

  int copy(int a, int from, int b, int to, int n) {
    if (out(a, 0, 3) || out(b, 0, 3)) {
      return find(Due.BEYOND);
    }
    if (sheets[a] == null || sheets[b] == null) {
      return find(Due.MISSING);
    }
    if (bits[a] != bits[b]) {
      return find(Due.KIND);
    }
    if (from < 0 || to < 0 || n < 0 || (long) from + n > sheets[a].length || (long) to + n > sheets[b].length) {
      return find(Due.BEYOND);
    }
    int[] were = sheets[a].clone();
    for (int i = 0; i < n; i++) {
      sheets[b][to + i] = were[from + i];
    }
    return n;
  }

  int image() {
    kept = s.copy();
    return 1;
  }

  int undo() {
    if (kept == null) {
      return find(Due.NONE);
    }
    s = kept.copy();
    return s.minute;
  }

  int tear() {
    int was = kept == null ? 0 : 1;
    kept = null;
    return was;
  }

  int count(int what) {
    if (out(what, 0, 13)) {
      return find(Due.BEYOND);
    }
    int[] states = new int[4];
    s.asks.forEach(a -> states[a.state]++);
    int bills = s.people.stream().mapToInt(p -> p.bill).sum();
    int moves = (int) s.movements.stream().filter(m -> m.end > s.minute).count();
    int[] all = {
      s.gliders.size(), s.people.size(), s.winches.size(), s.planes.size(), s.asks.size(),
      states[0], states[1], states[2], states[3], s.texts.size(), s.minute, tape.length(), bills, moves,
    };
    return all[what];
  }

  int status(int which) {
    if (out(which, -1, 6)) {
      return find(Due.BEYOND);
    }
    return which < 0 ? Arrays.stream(findings).sum() : findings[which];
  }
}
