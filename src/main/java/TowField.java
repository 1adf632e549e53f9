/**
 * A tow field: gliders, people, winches and tow planes, the asks for launches, the minutes that go,
 * texts that bar and cost, bills, sheets and one image. What each call answers stands in the document.
 *
 * All rows are made with the object and used again: no call makes an object.
 */
public final class TowField {
  private static final int BEYOND = -1000001;
  private static final int FULL = -1000002;
  private static final int KIND = -1000003;
  private static final int NONE = -1000004;
  private static final int STATE = -1000005;
  private static final int MISSING = -1000006;
  private static final int SIZE = -1000007;
  private static final int FINDINGS = 7;

  private static final int LAST_MINUTE = 900;
  private static final int MOST_WIND = 40;
  private static final int MOST_AHEAD = 200;
  private static final int TAPE_BYTES = 100;

  private final Texts texts;
  private final World now;
  private final World kept;
  private final World trial;
  private final Sheets sheets;
  private final Tape tape;
  private final int[] findings;
  private boolean isKept;

  public TowField() {
    texts = new Texts();
    now = new World(texts);
    kept = new World(texts);
    trial = new World(texts);
    sheets = new Sheets();
    tape = new Tape();
    findings = new int[FINDINGS];
    isKept = false;
  }

  // ---- field

  public int glider(int seats, int most, int link, int owners) {
    if (!within(seats, 1, 2) || !within(most, 60, 250) || !within(link, 0, World.LINKS - 1)) {
      return found(BEYOND);
    }
    if ((owners & ~now.people.all()) != 0) {
      return found(BEYOND);
    }
    if (now.gliders.size >= Gliders.MOST) {
      return found(FULL);
    }
    return now.gliders.add(seats, most, link, owners);
  }

  public int person(int weight, int papers) {
    if (!within(weight, 40, 130) || (papers & ~People.ALL_PAPERS) != 0) {
      return found(BEYOND);
    }
    if (now.people.size >= People.MOST) {
      return found(FULL);
    }
    return now.people.add(weight, papers);
  }

  public int winch() {
    if (now.winches.size >= Winches.MOST) {
      return found(FULL);
    }
    return now.winches.add();
  }

  public int plane() {
    if (now.planes.size >= Planes.MOST) {
      return found(FULL);
    }
    return now.planes.add();
  }

  public int gliderIs(int glider, int what) {
    if (!now.gliders.has(glider) || !within(what, 0, 4)) {
      return found(BEYOND);
    }
    return now.gliders.tell(glider, what);
  }

  public int personIs(int person, int what) {
    if (!now.people.has(person) || !within(what, 0, 4)) {
      return found(BEYOND);
    }
    return now.people.tell(person, what);
  }

  public int paper(int person, int kind, boolean has) {
    if (!now.people.has(person) || !within(kind, 1, People.TEACHER)) {
      return found(BEYOND);
    }
    int before = now.people.papers[person];
    int after = withBit(before, kind, has);
    now.people.papers[person] = after;
    return before == after ? 0 : 1;
  }

  public int rope(int winch, int rope, int what) {
    if (!now.winches.hasRope(winch, rope) || !within(what, 0, 1)) {
      return found(BEYOND);
    }
    int place = Winches.place(winch, rope);
    return what == 0 ? now.winches.state[place] : now.winches.till[place];
  }

  public int broken(int winch, int rope) {
    if (!now.winches.hasRope(winch, rope)) {
      return found(BEYOND);
    }
    int place = Winches.place(winch, rope);
    if (now.winches.state[place] == Winches.BROKEN) {
      return found(STATE);
    }
    int till = now.minute + now.rules[World.MEND];
    now.winches.put(place, Winches.BROKEN, till);
    return till;
  }

  public int tow(int plane) {
    if (!now.planes.has(plane)) {
      return found(BEYOND);
    }
    return now.planes.till[plane];
  }

  public int cross(int lane, int other, boolean is) {
    if (!Lanes.has(lane) || !Lanes.has(other) || lane == other) {
      return found(BEYOND);
    }
    int before = now.lanes.crosses[lane];
    int after = withBit(before, other, is);
    now.lanes.crosses[lane] = after;
    now.lanes.crosses[other] = withBit(now.lanes.crosses[other], lane, is);
    return before == after ? 0 : 1;
  }

  public int lane(int what, int lane) {
    if (!within(what, 0, Lanes.USES - 1) || !Lanes.has(lane)) {
      return found(BEYOND);
    }
    int before = now.lanes.laneFor[what];
    now.lanes.laneFor[what] = lane;
    return before;
  }

  public int wind(int v) {
    if (!within(v, 0, MOST_WIND)) {
      return found(BEYOND);
    }
    int before = now.wind;
    now.wind = v;
    return before;
  }

  public int link(int link, boolean is) {
    if (!within(link, 0, World.LINKS - 1)) {
      return found(BEYOND);
    }
    int before = now.links;
    now.links = withBit(before, link, is);
    return before == now.links ? 0 : 1;
  }

  public int rule(int which, int v) {
    if (!within(which, 0, World.RULES - 1)) {
      return found(BEYOND);
    }
    if (!within(v, World.RULE_LEAST[which], World.RULE_MOST[which])) {
      return found(BEYOND);
    }
    int before = now.rules[which];
    now.rules[which] = v;
    return before;
  }

  // ---- kinds

  public int bound(int kind) {
    if (!Kinds.has(kind)) {
      return found(BEYOND);
    }
    return Kinds.mostWind(kind);
  }

  public int span(int kind, int height) {
    if (!Kinds.has(kind) || !within(height, 1, Kinds.MOST_HEIGHT)) {
      return found(BEYOND);
    }
    return Kinds.minutesOnLane(kind, height);
  }

  // ---- asks

  public int ask(int person, int with, int glider, int how, int minutes) {
    if (!now.people.has(person) || !mayBeAlong(with, person) || !now.gliders.has(glider)) {
      return found(BEYOND);
    }
    if (!isHow(how) || !within(minutes, 1, 60)) {
      return found(BEYOND);
    }
    if (now.asks.size >= Asks.MOST) {
      return found(FULL);
    }
    return now.asks.add(person, with, glider, how, minutes);
  }

  public int askIs(int ask, int what) {
    if (!now.asks.has(ask) || !within(what, 0, 9)) {
      return found(BEYOND);
    }
    return now.asks.tell(ask, what);
  }

  public int as(int ask, int kind) {
    if (!now.asks.has(ask) || !Kinds.has(kind)) {
      return found(BEYOND);
    }
    if (!Kinds.isOrUnder(now.asks.kind[ask], kind)) {
      return found(KIND);
    }
    return ask;
  }

  public int back(int ask) {
    if (!now.asks.has(ask)) {
      return found(BEYOND);
    }
    if (now.asks.state[ask] != Asks.WAITS) {
      return found(STATE);
    }
    now.asks.state[ask] = Asks.GONE;
    return 1;
  }

  public int why(int ask) {
    if (!now.asks.has(ask)) {
      return found(BEYOND);
    }
    if (now.asks.state[ask] != Asks.WAITS) {
      return found(STATE);
    }
    return now.whyNot(ask, now.barred());
  }

  public int clear(int lane, int n) {
    if (!Lanes.has(lane) || !within(n, 1, 60)) {
      return found(BEYOND);
    }
    return now.lanes.isClear(lane, now.minute, n) ? 1 : 0;
  }

  public int next() {
    return now.first(now.barred());
  }

  // ---- texts

  public int feed(int bytes, int n) {
    if (!within(n, 1, 4)) {
      return found(BEYOND);
    }
    if (tape.size + n > TAPE_BYTES) {
      return found(FULL);
    }
    for (int i = n - 1; i >= 0; i--) {
      tape.add((bytes >> (8 * i)) & 255);
    }
    return tape.size;
  }

  public int wipe() {
    int before = tape.size;
    tape.size = 0;
    return before;
  }

  public int text(int use) {
    if (!within(use, 0, Texts.USES - 1)) {
      return found(BEYOND);
    }
    if (now.textCount >= Texts.MOST) {
      return found(FULL);
    }
    int fault = tape.read();
    tape.size = 0;
    if (fault >= 0) {
      return -1 - fault;
    }
    int number = now.textCount;
    texts.put(number, tape.steps, tape.length);
    now.textCount = number + 1;
    now.inForce[use] = number;
    return number;
  }

  public int force(int use) {
    if (!within(use, 0, Texts.USES - 1)) {
      return found(BEYOND);
    }
    if (now.inForce[use] < 0) {
      return found(NONE);
    }
    return now.inForce[use];
  }

  public int says(int text, int height, int minutes, int kind) {
    if (!within(text, 0, now.textCount - 1)) {
      return found(BEYOND);
    }
    return texts.value(text, height, minutes, kind, now.wind);
  }

  // ---- minutes

  public int run(int n) {
    if (!within(n, 1, 100)) {
      return found(BEYOND);
    }
    if (now.minute + n > LAST_MINUTE) {
      return found(FULL);
    }
    now.go(n);
    return now.minute;
  }

  public int ahead(int n, int what) {
    if (!within(n, 0, MOST_AHEAD) || !within(what, 0, 3)) {
      return found(BEYOND);
    }
    trial.become(now);
    int went = trial.go(n);
    switch (what) {
      case 0:
        return went % World.LANDING;
      case 1:
        return went / World.LANDING;
      case 2:
        return trial.asks.thatAre(Asks.IN_AIR);
      default:
        return trial.asks.thatAre(Asks.WAITS);
    }
  }

  public int late(int minute) {
    if (!within(minute, now.minute, now.minute + MOST_AHEAD)) {
      return found(BEYOND);
    }
    trial.become(now);
    trial.go(minute - now.minute + 1);
    return trial.asks.thatAre(Asks.WAITS);
  }

  public int check(int s) {
    if (!Sheets.has(s)) {
      return found(BEYOND);
    }
    if (sheets.bits[s] == 0) {
      return found(MISSING);
    }
    trial.become(now);
    int barred = trial.barred();
    int size = sheets.size[s];
    for (int i = 0; i < size; i++) {
      int went = trial.goMinute(barred);
      int tells = went % World.LANDING + 10 * (went / World.LANDING);
      if (sheets.numbers[s][i] != tells) {
        return i;
      }
    }
    return size;
  }

  // ---- bills

  public int share(int glider, int sum) {
    if (!now.gliders.has(glider) || !within(sum, 0, 9999)) {
      return found(BEYOND);
    }
    int owners = now.gliders.owners[glider];
    if (owners == 0) {
      return found(NONE);
    }
    return now.people.part(owners, sum);
  }

  public int pay(int person, int coins) {
    if (!now.people.has(person) || !within(coins, 1, 99999)) {
      return found(BEYOND);
    }
    if (now.people.bill[person] < coins) {
      return found(STATE);
    }
    now.people.bill[person] -= coins;
    return now.people.bill[person];
  }

  // ---- sheets

  public int sheet(int s, int bits, int n) {
    if (!Sheets.has(s) || !Sheets.isBits(bits)) {
      return found(BEYOND);
    }
    if (n < 0) {
      return found(SIZE);
    }
    if (n > Sheets.MOST) {
      return found(BEYOND);
    }
    return sheets.lay(s, bits, n);
  }

  public int write(int s, int i, int v) {
    if (!Sheets.has(s)) {
      return found(BEYOND);
    }
    if (sheets.bits[s] == 0) {
      return found(MISSING);
    }
    if (!within(i, 0, sheets.size[s] - 1)) {
      return found(BEYOND);
    }
    sheets.numbers[s][i] = Sheets.lowest(sheets.bits[s], v);
    return 1;
  }

  public int copy(int s, int from, int t, int to, int n) {
    if (!Sheets.has(s) || !Sheets.has(t)) {
      return found(BEYOND);
    }
    if (sheets.bits[s] == 0 || sheets.bits[t] == 0) {
      return found(MISSING);
    }
    if (sheets.bits[s] != sheets.bits[t]) {
      return found(KIND);
    }
    if (!sheets.hasPart(s, from, n) || !sheets.hasPart(t, to, n)) {
      return found(BEYOND);
    }
    System.arraycopy(sheets.numbers[s], from, sheets.numbers[t], to, n);
    return n;
  }

  // ---- images

  public int image() {
    kept.become(now);
    isKept = true;
    return 1;
  }

  public int undo() {
    if (!isKept) {
      return found(NONE);
    }
    now.become(kept);
    return now.minute;
  }

  public int tear() {
    int before = isKept ? 1 : 0;
    isKept = false;
    return before;
  }

  public int count(int what) {
    switch (what) {
      case 0:
        return now.gliders.size;
      case 1:
        return now.people.size;
      case 2:
        return now.winches.size;
      case 3:
        return now.planes.size;
      case 4:
        return now.asks.size;
      case 5:
      case 6:
      case 7:
      case 8:
        return Integer.bitCount(now.asks.thatAre(what - 5));
      case 9:
        return now.textCount;
      case 10:
        return now.minute;
      case 11:
        return tape.size;
      case 12:
        return now.people.bills();
      case 13:
        return now.lanes.size;
      default:
        return found(BEYOND);
    }
  }

  public int status(int which) {
    if (which == -1) {
      int all = 0;
      for (int i = 0; i < FINDINGS; i++) {
        all += findings[i];
      }
      return all;
    }
    if (!within(which, 0, FINDINGS - 1)) {
      return found(BEYOND);
    }
    return findings[which];
  }

  // ---- what the calls above share

  private int found(int finding) {
    int place = BEYOND - finding;
    if (within(place, 0, FINDINGS - 1)) {
      findings[place]++;
    }
    return finding;
  }

  private boolean mayBeAlong(int with, int person) {
    return with == -1 || (now.people.has(with) && with != person);
  }

  private static boolean isHow(int how) {
    return how >= 0 && within(how % 10, 1, Kinds.LAST) && within(how / 10, 1, Kinds.MOST_HEIGHT);
  }

  private static boolean within(int v, int least, int most) {
    return v >= least && v <= most;
  }

  private static int withBit(int set, int bit, boolean is) {
    return is ? set | (1 << bit) : set & ~(1 << bit);
  }

  private static boolean hasBit(int set, int bit) {
    return ((set >> bit) & 1) != 0;
  }

  /** The kinds of launches: what is not told of a kind is as of the kind above it. */
  private static final class Kinds {
    static final int LAUNCH = 0;
    static final int WINCH = 1;
    static final int TOW = 2;
    static final int DOUBLE = 3;
    static final int SELF = 4;
    static final int RETRIEVE = 5;
    static final int LAST = 5;
    static final int MOST_HEIGHT = 30;

    private static final int LAUNCH_WIND = 25;
    private static final int WINCH_WIND = LAUNCH_WIND - 5;
    private static final int TOW_WIND = LAUNCH_WIND;
    private static final int LAUNCH_MINUTES = 1;
    private static final int WINCH_MINUTES = LAUNCH_MINUTES + 1;
    private static final int[] ABOVE = {-1, LAUNCH, LAUNCH, WINCH, TOW, TOW};

    static boolean has(int kind) {
      return within(kind, 0, LAST);
    }

    static boolean isOrUnder(int kind, int upper) {
      int at = kind;
      for (int i = 0; i <= LAST && has(at); i++) {
        if (at == upper) {
          return true;
        }
        at = ABOVE[at];
      }
      return false;
    }

    static int mostWind(int kind) {
      switch (kind) {
        case WINCH:
          return WINCH_WIND;
        case TOW:
          return TOW_WIND;
        case DOUBLE:
          return WINCH_WIND / 2;
        case SELF:
          return LAUNCH_WIND - 10;
        case RETRIEVE:
          return TOW_WIND + 3;
        default:
          return LAUNCH_WIND;
      }
    }

    static int minutesOnLane(int kind, int height) {
      int towed = LAUNCH_MINUTES + height / 5;
      switch (kind) {
        case WINCH:
          return WINCH_MINUTES;
        case TOW:
          return towed;
        case DOUBLE:
          return 2 * WINCH_MINUTES;
        case SELF:
          return Math.max(1, towed - 1);
        case RETRIEVE:
          return towed + 4;
        default:
          return LAUNCH_MINUTES;
      }
    }
  }

  /** The gliders, and which of them are not in the row. */
  private static final class Gliders {
    static final int MOST = 10;

    final int[] seats = new int[MOST];
    final int[] most = new int[MOST];
    final int[] link = new int[MOST];
    final int[] owners = new int[MOST];
    int size = 0;
    int outOfRow = 0;

    boolean has(int glider) {
      return within(glider, 0, size - 1);
    }

    int add(int seatsOf, int mostOf, int linkOf, int ownersOf) {
      int number = size;
      seats[number] = seatsOf;
      most[number] = mostOf;
      link[number] = linkOf;
      owners[number] = ownersOf;
      size = number + 1;
      return number;
    }

    int tell(int glider, int what) {
      switch (what) {
        case 0:
          return seats[glider];
        case 1:
          return most[glider];
        case 2:
          return link[glider];
        case 3:
          return owners[glider];
        default:
          return hasBit(outOfRow, glider) ? 0 : 1;
      }
    }

    void become(Gliders other) {
      size = other.size;
      outOfRow = other.outOfRow;
      System.arraycopy(other.seats, 0, seats, 0, size);
      System.arraycopy(other.most, 0, most, 0, size);
      System.arraycopy(other.link, 0, link, 0, size);
      System.arraycopy(other.owners, 0, owners, 0, size);
    }
  }

  /** The people, and which of them are in the air. */
  private static final class People {
    static final int MOST = 14;
    static final int TEACHER = 6;
    static final int ALL_PAPERS = 126;

    final int[] weight = new int[MOST];
    final int[] papers = new int[MOST];
    final int[] last = new int[MOST];
    final int[] bill = new int[MOST];
    int size = 0;
    int inAir = 0;

    boolean has(int person) {
      return within(person, 0, size - 1);
    }

    int all() {
      return (1 << size) - 1;
    }

    int add(int weightOf, int papersOf) {
      int number = size;
      weight[number] = weightOf;
      papers[number] = papersOf;
      last[number] = -1;
      bill[number] = 0;
      size = number + 1;
      return number;
    }

    int tell(int person, int what) {
      switch (what) {
        case 0:
          return weight[person];
        case 1:
          return papers[person];
        case 2:
          return last[person];
        case 3:
          return bill[person];
        default:
          return hasBit(inAir, person) ? 1 : 0;
      }
    }

    boolean hasPaper(int person, int kind) {
      return person >= 0 && person < size && hasBit(papers[person], kind);
    }

    int bills() {
      int sum = 0;
      for (int i = 0; i < size; i++) {
        sum += bill[i];
      }
      return sum;
    }

    int part(int owners, int sum) {
      int many = Integer.bitCount(owners);
      if (many == 0) {
        return 0;
      }
      int left = sum % many;
      for (int i = 0; i < size; i++) {
        if (hasBit(owners, i)) {
          bill[i] += sum / many + (left > 0 ? 1 : 0);
          left--;
        }
      }
      return many;
    }

    void become(People other) {
      size = other.size;
      inAir = other.inAir;
      System.arraycopy(other.weight, 0, weight, 0, size);
      System.arraycopy(other.papers, 0, papers, 0, size);
      System.arraycopy(other.last, 0, last, 0, size);
      System.arraycopy(other.bill, 0, bill, 0, size);
    }
  }

  /** The winches; their ropes stand two by two in one row. */
  private static final class Winches {
    static final int MOST = 3;
    static final int ROPES = 2;
    static final int AT_DRUM = 0;
    static final int FETCHED = 1;
    static final int OUT = 2;
    static final int BROKEN = 3;

    final int[] state = new int[MOST * ROPES];
    final int[] till = new int[MOST * ROPES];
    int size = 0;

    static int place(int winch, int rope) {
      return winch * ROPES + rope;
    }

    boolean hasRope(int winch, int rope) {
      return within(winch, 0, size - 1) && within(rope, 0, ROPES - 1);
    }

    int add() {
      int number = size;
      for (int rope = 0; rope < ROPES; rope++) {
        put(place(number, rope), AT_DRUM, -1);
      }
      size = number + 1;
      return number;
    }

    void put(int place, int stateOf, int tillOf) {
      state[place] = stateOf;
      till[place] = tillOf;
    }

    int firstOut() {
      for (int place = 0; place < size * ROPES; place++) {
        if (state[place] == OUT) {
          return place;
        }
      }
      return -1;
    }

    int firstWithBothOut() {
      for (int place = 0; place < size * ROPES; place += ROPES) {
        if (state[place] == OUT && state[place + 1] == OUT) {
          return place / ROPES;
        }
      }
      return -1;
    }

    int firstToFetch() {
      for (int place = 0; place < size * ROPES; place++) {
        if (state[place] == AT_DRUM) {
          return place / ROPES;
        }
      }
      return -1;
    }

    void useOne() {
      int place = firstOut();
      if (place >= 0) {
        put(place, AT_DRUM, -1);
      }
    }

    void useBoth() {
      int winch = firstWithBothOut();
      if (winch >= 0) {
        put(place(winch, 0), AT_DRUM, -1);
        put(place(winch, 1), AT_DRUM, -1);
      }
    }

    void fetch(int winch, int tillOf) {
      for (int rope = 0; rope < ROPES; rope++) {
        int place = place(winch, rope);
        if (state[place] == AT_DRUM) {
          put(place, FETCHED, tillOf);
        }
      }
    }

    void open(int minute) {
      for (int place = 0; place < size * ROPES; place++) {
        if (state[place] == FETCHED && till[place] <= minute) {
          put(place, OUT, -1);
        } else if (state[place] == BROKEN && till[place] <= minute) {
          put(place, AT_DRUM, -1);
        }
      }
    }

    void become(Winches other) {
      size = other.size;
      System.arraycopy(other.state, 0, state, 0, size * ROPES);
      System.arraycopy(other.till, 0, till, 0, size * ROPES);
    }
  }

  /** The tow planes: till when each is away, -1 if it is there. */
  private static final class Planes {
    static final int MOST = 3;

    final int[] till = new int[MOST];
    int size = 0;

    boolean has(int plane) {
      return within(plane, 0, size - 1);
    }

    int add() {
      int number = size;
      till[number] = -1;
      size = number + 1;
      return number;
    }

    int firstThere() {
      for (int plane = 0; plane < size; plane++) {
        if (till[plane] < 0) {
          return plane;
        }
      }
      return -1;
    }

    void useOne(int tillOf) {
      int plane = firstThere();
      if (plane >= 0) {
        till[plane] = tillOf;
      }
    }

    void open(int minute) {
      for (int plane = 0; plane < size; plane++) {
        if (till[plane] <= minute) {
          till[plane] = -1;
        }
      }
    }

    void become(Planes other) {
      size = other.size;
      System.arraycopy(other.till, 0, till, 0, size);
    }
  }

  /** The lanes, what each is for, which cross, and the movements that have not ended. */
  private static final class Lanes {
    static final int MOST = 6;
    static final int USES = 4;
    static final int FOR_WINCH = 0;
    static final int FOR_TOW = 1;
    static final int FOR_LANDING = 2;
    static final int FOR_FETCHING = 3;

    // A movement begins only where its lane is clear, and each lane crosses itself.
    private static final int MOST_MOVEMENTS = MOST;

    final int[] crosses = new int[MOST];
    final int[] laneFor = new int[USES];
    final int[] on = new int[MOST_MOVEMENTS];
    final int[] from = new int[MOST_MOVEMENTS];
    final int[] end = new int[MOST_MOVEMENTS];
    int size = 0;

    Lanes() {
      for (int lane = 0; lane < MOST; lane++) {
        crosses[lane] = 1 << lane;
      }
      for (int use = 0; use < USES; use++) {
        laneFor[use] = use;
      }
    }

    static boolean has(int lane) {
      return within(lane, 0, MOST - 1);
    }

    boolean isClear(int lane, int minute, int n) {
      int crossed = crosses[lane];
      for (int i = 0; i < size; i++) {
        if (hasBit(crossed, on[i]) && from[i] < minute + n && end[i] > minute) {
          return false;
        }
      }
      return true;
    }

    void move(int use, int minute, int n) {
      if (size < MOST_MOVEMENTS) {
        on[size] = laneFor[use];
        from[size] = minute;
        end[size] = minute + n;
        size++;
      }
    }

    void open(int minute) {
      int stay = 0;
      for (int i = 0; i < size; i++) {
        if (end[i] > minute) {
          on[stay] = on[i];
          from[stay] = from[i];
          end[stay] = end[i];
          stay++;
        }
      }
      size = stay;
    }

    void become(Lanes other) {
      size = other.size;
      System.arraycopy(other.crosses, 0, crosses, 0, MOST);
      System.arraycopy(other.laneFor, 0, laneFor, 0, USES);
      System.arraycopy(other.on, 0, on, 0, size);
      System.arraycopy(other.from, 0, from, 0, size);
      System.arraycopy(other.end, 0, end, 0, size);
    }
  }

  /** The asks for launches. */
  private static final class Asks {
    static final int MOST = 20;
    static final int WAITS = 0;
    static final int IN_AIR = 1;
    static final int DOWN = 2;
    static final int GONE = 3;

    final int[] who = new int[MOST];
    final int[] along = new int[MOST];
    final int[] glider = new int[MOST];
    final int[] kind = new int[MOST];
    final int[] height = new int[MOST];
    final int[] minutes = new int[MOST];
    final int[] laneUse = new int[MOST];
    final int[] onLane = new int[MOST];
    final int[] state = new int[MOST];
    final int[] started = new int[MOST];
    final int[] cameDown = new int[MOST];
    final int[] cost = new int[MOST];
    int size = 0;

    boolean has(int ask) {
      return within(ask, 0, size - 1);
    }

    int add(int person, int with, int gliderOf, int how, int minutesOf) {
      int number = size;
      who[number] = person;
      along[number] = with;
      glider[number] = gliderOf;
      kind[number] = how % 10;
      height[number] = how / 10;
      minutes[number] = minutesOf;
      laneUse[number] = Kinds.isOrUnder(kind[number], Kinds.TOW) ? Lanes.FOR_TOW : Lanes.FOR_WINCH;
      onLane[number] = Kinds.minutesOnLane(kind[number], height[number]);
      state[number] = WAITS;
      started[number] = -1;
      cameDown[number] = -1;
      cost[number] = -1;
      size = number + 1;
      return number;
    }

    int tell(int ask, int what) {
      switch (what) {
        case 0:
          return who[ask];
        case 1:
          return along[ask];
        case 2:
          return glider[ask];
        case 3:
          return kind[ask];
        case 4:
          return height[ask];
        case 5:
          return minutes[ask];
        case 6:
          return state[ask];
        case 7:
          return started[ask];
        case 8:
          return cameDown[ask];
        default:
          return cost[ask];
      }
    }

    int thatAre(int stateOf) {
      int set = 0;
      for (int ask = 0; ask < size; ask++) {
        if (state[ask] == stateOf) {
          set |= 1 << ask;
        }
      }
      return set;
    }

    int crew(int ask) {
      int set = 1 << who[ask];
      return along[ask] < 0 ? set : set | (1 << along[ask]);
    }

    int firstDue(int minute, int shortest) {
      int first = -1;
      int firstAt = 0;
      for (int ask = 0; ask < size; ask++) {
        if (state[ask] == IN_AIR) {
          int at = started[ask] + onLane[ask] + Math.max(minutes[ask], shortest);
          if (at <= minute && (first < 0 || at < firstAt)) {
            first = ask;
            firstAt = at;
          }
        }
      }
      return first;
    }

    void become(Asks other) {
      size = other.size;
      System.arraycopy(other.who, 0, who, 0, size);
      System.arraycopy(other.along, 0, along, 0, size);
      System.arraycopy(other.glider, 0, glider, 0, size);
      System.arraycopy(other.kind, 0, kind, 0, size);
      System.arraycopy(other.height, 0, height, 0, size);
      System.arraycopy(other.minutes, 0, minutes, 0, size);
      System.arraycopy(other.laneUse, 0, laneUse, 0, size);
      System.arraycopy(other.onLane, 0, onLane, 0, size);
      System.arraycopy(other.state, 0, state, 0, size);
      System.arraycopy(other.started, 0, started, 0, size);
      System.arraycopy(other.cameDown, 0, cameDown, 0, size);
      System.arraycopy(other.cost, 0, cost, 0, size);
    }
  }

  /** All that an image keeps: sections 1 to 6 of the document's terms, but for the tape. */
  private static final class World {
    static final int LINKS = 4;
    static final int RULES = 4;
    static final int FETCH = 0;
    static final int RECENT = 1;
    static final int MEND = 2;
    static final int SHORT = 3;
    static final int[] RULE_LEAST = {1, 0, 1, 0};
    static final int[] RULE_MOST = {20, 900, 60, 20};

    // What went is told by one number: launches, and this for each landing.
    static final int LANDING = 1000;

    private static final int[] RULE_FIRST = {4, 0, 10, 2};
    private static final int LANDING_MINUTES = 2;
    private static final int MOST_COST = 9999;

    final Texts texts;
    final Gliders gliders = new Gliders();
    final People people = new People();
    final Winches winches = new Winches();
    final Planes planes = new Planes();
    final Lanes lanes = new Lanes();
    final Asks asks = new Asks();
    final int[] rules = new int[RULES];
    final int[] inForce = new int[Texts.USES];
    int minute = 0;
    int wind = 0;
    int links = 15;
    int textCount = 0;

    World(Texts textsOfAll) {
      texts = textsOfAll;
      for (int i = 0; i < RULES; i++) {
        rules[i] = RULE_FIRST[i];
      }
      for (int use = 0; use < Texts.USES; use++) {
        inForce[use] = -1;
      }
    }

    void become(World other) {
      minute = other.minute;
      wind = other.wind;
      links = other.links;
      textCount = other.textCount;
      System.arraycopy(other.rules, 0, rules, 0, RULES);
      System.arraycopy(other.inForce, 0, inForce, 0, Texts.USES);
      gliders.become(other.gliders);
      people.become(other.people);
      winches.become(other.winches);
      planes.become(other.planes);
      lanes.become(other.lanes);
      asks.become(other.asks);
    }

    /** The asks that wait and are barred: while minutes go, nothing changes what a text says of them. */
    int barred() {
      int bar = inForce[Texts.BAR];
      int set = 0;
      if (bar < 0) {
        return set;
      }
      for (int ask = 0; ask < asks.size; ask++) {
        if (asks.state[ask] == Asks.WAITS && isBarredBy(bar, ask)) {
          set |= 1 << ask;
        }
      }
      return set;
    }

    private boolean isBarredBy(int bar, int ask) {
      return texts.value(bar, asks.height[ask], asks.minutes[ask], asks.kind[ask], wind) != 0;
    }

    int whyNot(int ask, int barred) {
      int first = whyNotWith(ask);
      if (first == 0) {
        first = whyNotBy(ask);
      }
      if (first == 0) {
        first = whyNotIn(ask, barred);
      }
      return first;
    }

    private int whyNotWith(int ask) {
      int glider = asks.glider[ask];
      int along = asks.along[ask];
      if (hasBit(gliders.outOfRow, glider)) {
        return 1;
      }
      if (along >= 0 && gliders.seats[glider] == 1) {
        return 2;
      }
      int weight = people.weight[asks.who[ask]] + (along >= 0 ? people.weight[along] : 0);
      return weight > gliders.most[glider] ? 3 : 0;
    }

    private int whyNotBy(int ask) {
      int who = asks.who[ask];
      int along = asks.along[ask];
      int kind = asks.kind[ask];
      boolean teacher = people.hasPaper(along, People.TEACHER);
      if (!people.hasPaper(who, kind) && !(teacher && people.hasPaper(along, kind))) {
        return 4;
      }
      return !teacher && !isRecent(people.last[who]) ? 5 : 0;
    }

    private boolean isRecent(int last) {
      int recent = rules[RECENT];
      return recent == 0 || (last >= 0 && minute - last <= recent);
    }

    private int whyNotIn(int ask, int barred) {
      if (wind > Kinds.mostWind(asks.kind[ask])) {
        return 6;
      }
      if (!hasBit(links, gliders.link[asks.glider[ask]])) {
        return 7;
      }
      if ((people.inAir & asks.crew(ask)) != 0) {
        return 8;
      }
      if (hasBit(barred, ask)) {
        return 9;
      }
      if (!hasGear(asks.kind[ask])) {
        return 10;
      }
      int lane = lanes.laneFor[asks.laneUse[ask]];
      return lanes.isClear(lane, minute, asks.onLane[ask]) ? 0 : 11;
    }

    private boolean hasGear(int kind) {
      switch (kind) {
        case Kinds.WINCH:
          return winches.firstOut() >= 0;
        case Kinds.DOUBLE:
          return winches.firstWithBothOut() >= 0;
        case Kinds.SELF:
          return true;
        default:
          return planes.firstThere() >= 0;
      }
    }

    private void useGear(int kind, int minutes) {
      switch (kind) {
        case Kinds.WINCH:
          winches.useOne();
          break;
        case Kinds.DOUBLE:
          winches.useBoth();
          break;
        case Kinds.SELF:
          break;
        default:
          planes.useOne(minute + 2 * minutes);
          break;
      }
    }

    private int lands() {
      int ask = asks.firstDue(minute, rules[SHORT]);
      return lanes.isClear(lanes.laneFor[Lanes.FOR_LANDING], minute, LANDING_MINUTES) ? ask : -1;
    }

    private int starts(int barred) {
      for (int ask = 0; ask < asks.size; ask++) {
        if (asks.state[ask] == Asks.WAITS && whyNot(ask, barred) == 0) {
          return ask;
        }
      }
      return -1;
    }

    private int isFetched() {
      int winch = winches.firstToFetch();
      return lanes.isClear(lanes.laneFor[Lanes.FOR_FETCHING], minute, rules[FETCH]) ? winch : -1;
    }

    int first(int barred) {
      int landing = lands();
      if (landing >= 0) {
        return 1000 + landing;
      }
      int start = starts(barred);
      if (start >= 0) {
        return 2000 + start;
      }
      int winch = isFetched();
      return winch >= 0 ? 3000 + winch : 0;
    }

    int go(int n) {
      int barred = barred();
      int went = 0;
      for (int i = 0; i < n; i++) {
        went += goMinute(barred);
      }
      return went;
    }

    /** One landing and one fetching at most: each keeps its lane, which crosses itself. */
    int goMinute(int barred) {
      int went = 0;
      int landing = lands();
      if (landing >= 0) {
        comeDown(landing);
        went += LANDING;
      }
      int start = starts(barred);
      if (start >= 0) {
        takeOff(start);
        went++;
      }
      int winch = isFetched();
      if (winch >= 0) {
        winches.fetch(winch, minute + rules[FETCH]);
        lanes.move(Lanes.FOR_FETCHING, minute, rules[FETCH]);
      }
      openNext();
      return went;
    }

    private void comeDown(int ask) {
      int who = asks.who[ask];
      int along = asks.along[ask];
      int cost = costOf(ask);
      lanes.move(Lanes.FOR_LANDING, minute, LANDING_MINUTES);
      asks.state[ask] = Asks.DOWN;
      asks.cameDown[ask] = minute;
      asks.cost[ask] = cost;
      people.bill[who] += cost;
      people.last[who] = minute;
      if (along >= 0) {
        people.last[along] = minute;
      }
      people.inAir &= ~asks.crew(ask);
      gliders.outOfRow = withBit(gliders.outOfRow, asks.glider[ask], false);
    }

    private void takeOff(int ask) {
      lanes.move(asks.laneUse[ask], minute, asks.onLane[ask]);
      useGear(asks.kind[ask], asks.onLane[ask]);
      asks.state[ask] = Asks.IN_AIR;
      asks.started[ask] = minute;
      people.inAir |= asks.crew(ask);
      gliders.outOfRow = withBit(gliders.outOfRow, asks.glider[ask], true);
    }

    private void openNext() {
      minute++;
      winches.open(minute);
      planes.open(minute);
      lanes.open(minute);
    }

    private int costOf(int ask) {
      int onLane = asks.onLane[ask];
      int height = asks.height[ask];
      int inAir = minute - asks.started[ask] - onLane;
      int text = inForce[Texts.COST];
      int cost = 10 * onLane + 2 * height + inAir;
      if (text >= 0) {
        cost = texts.value(text, height, inAir, asks.kind[ask], wind);
      }
      return Math.max(0, Math.min(MOST_COST, cost));
    }
  }

  /**
   * The texts, as rows of steps on a stack. One shelf serves the present and the image: the texts that
   * an image keeps are always the first ones of the present too, and none is written over.
   */
  private static final class Texts {
    static final int MOST = 6;
    static final int USES = 2;
    static final int BAR = 0;
    static final int COST = 1;

    // A step is a number (0 or more), a name (NAME less its place) or the sign of what is worked out,
    // told by SIGN less its byte.
    static final int NAME = -1;
    static final int SIGN = -100;

    private static final int NAMES = 4;

    private final int[][] steps = new int[MOST][TAPE_BYTES];
    private final int[] length = new int[MOST];
    private final int[] named = new int[NAMES];
    private final int[] stack = new int[TAPE_BYTES];

    void put(int text, int[] row, int lengthOf) {
      System.arraycopy(row, 0, steps[text], 0, lengthOf);
      length[text] = lengthOf;
    }

    int value(int text, int height, int minutes, int kind, int wind) {
      named[0] = height;
      named[1] = minutes;
      named[2] = kind;
      named[3] = wind;
      int top = 0;
      for (int i = 0; i < length[text]; i++) {
        top = step(steps[text][i], top);
      }
      return stack[0];
    }

    /** How many there are on the stack behind this step; one that can't be is passed over. */
    private int step(int what, int top) {
      if (what > SIGN) {
        return push(what, top);
      }
      int sign = SIGN - what;
      int below = sign == '!' ? top - 1 : top - 2;
      if (below < 0) {
        return top;
      }
      stack[below] = workOut(sign, stack[below], stack[top - 1]);
      return below + 1;
    }

    private int push(int what, int top) {
      int name = NAME - what;
      if (top >= TAPE_BYTES || name >= NAMES) {
        return top;
      }
      stack[top] = name < 0 ? what : named[name];
      return top + 1;
    }

    private static int workOut(int sign, int a, int b) {
      switch (sign) {
        case '|':
          return a != 0 || b != 0 ? 1 : 0;
        case '&':
          return a != 0 && b != 0 ? 1 : 0;
        case '!':
          return b == 0 ? 1 : 0;
        case '<':
          return a < b ? 1 : 0;
        case '=':
          return a == b ? 1 : 0;
        case '>':
          return a > b ? 1 : 0;
        case '+':
          return a + b;
        case '-':
          return a - b;
        case '*':
          return a * b;
        default:
          return b == 0 ? 0 : a / b;
      }
    }
  }

  /** The tape, and how it is read as a text: into steps, or to the place of the fault. */
  private static final class Tape {
    private static final int MOST_OPEN = 6;
    private static final int MOST_DIGITS = 4;
    private static final int BLANK = 32;

    // A token that is a sign is told by its byte; these others lie beyond the bytes.
    private static final int NUMBER = 256;
    private static final int NAMED = 257;
    private static final int END = 258;
    private static final int BAD = 259;

    private static final String SIGNS = "|&!<=>+-*/()";
    private static final String HEIGHT = "height";
    private static final String MINUTES = "minutes";
    private static final String KIND_NAME = "kind";
    private static final String WIND = "wind";

    private final int[] bytes = new int[TAPE_BYTES];
    final int[] steps = new int[TAPE_BYTES];
    int size = 0;
    int length = 0;
    private int at = 0;
    private int start = 0;
    private int token = END;
    private int told = 0;

    void add(int oneByte) {
      if (size < TAPE_BYTES) {
        bytes[size] = oneByte;
        size++;
      }
    }

    /** The place of the fault, or -1 if the steps (length of them) are those of the text. */
    int read() {
      length = 0;
      at = 0;
      advance();
      return readEither(0) && token == END ? -1 : start;
    }

    // Each of these answers false as soon as the token that it stands on can't be there; that token's
    // first byte is the fault then, as nothing reads on.

    private boolean readEither(int open) {
      boolean fine = readBoth(open);
      for (int i = 0; i < TAPE_BYTES && fine && token == '|'; i++) {
        advance();
        fine = readBoth(open) && putSign('|');
      }
      return fine;
    }

    private boolean readBoth(int open) {
      boolean fine = readNot(open);
      for (int i = 0; i < TAPE_BYTES && fine && token == '&'; i++) {
        advance();
        fine = readNot(open) && putSign('&');
      }
      return fine;
    }

    private boolean readNot(int open) {
      if (token != '!') {
        return readCompared(open);
      }
      if (open >= MOST_OPEN) {
        return false;
      }
      advance();
      return readNot(open + 1) && putSign('!');
    }

    private boolean readCompared(int open) {
      if (!readSum(open)) {
        return false;
      }
      int sign = token;
      if (sign != '<' && sign != '=' && sign != '>') {
        return true;
      }
      advance();
      return readSum(open) && putSign(sign);
    }

    private boolean readSum(int open) {
      boolean fine = readProduct(open);
      for (int i = 0; i < TAPE_BYTES && fine && (token == '+' || token == '-'); i++) {
        int sign = token;
        advance();
        fine = readProduct(open) && putSign(sign);
      }
      return fine;
    }

    private boolean readProduct(int open) {
      boolean fine = readSingle(open);
      for (int i = 0; i < TAPE_BYTES && fine && (token == '*' || token == '/'); i++) {
        int sign = token;
        advance();
        fine = readSingle(open) && putSign(sign);
      }
      return fine;
    }

    private boolean readSingle(int open) {
      if (token == NUMBER || token == NAMED) {
        put(token == NUMBER ? told : Texts.NAME - told);
        advance();
        return true;
      }
      if (token != '(' || open >= MOST_OPEN) {
        return false;
      }
      advance();
      if (!readEither(open + 1) || token != ')') {
        return false;
      }
      advance();
      return true;
    }

    private boolean putSign(int sign) {
      put(Texts.SIGN - sign);
      return true;
    }

    private void put(int what) {
      if (length < TAPE_BYTES) {
        steps[length] = what;
        length++;
      }
    }

    private void advance() {
      at = behindAll(at, BLANK, BLANK);
      start = at;
      if (at >= size) {
        token = END;
        return;
      }
      int first = bytes[at];
      if (within(first, 'a', 'z')) {
        takeWord();
      } else if (within(first, '0', '9')) {
        takeNumber();
      } else {
        token = SIGNS.indexOf((char) first) >= 0 ? first : BAD;
        at++;
      }
    }

    /** The first place from one on whose byte isn't of a range. */
    private int behindAll(int from, int least, int most) {
      int place = from;
      while (place < size && within(bytes[place], least, most)) {
        place++;
      }
      return place;
    }

    private void takeNumber() {
      at = behindAll(start, '0', '9');
      token = at - start > MOST_DIGITS ? BAD : NUMBER;
      told = 0;
      for (int i = start; i < at; i++) {
        told = told * 10 + bytes[i] - '0';
      }
    }

    private void takeWord() {
      at = behindAll(start, 'a', 'z');
      token = NAMED;
      if (isWord(HEIGHT)) {
        told = 0;
      } else if (isWord(MINUTES)) {
        told = 1;
      } else if (isWord(KIND_NAME)) {
        told = 2;
      } else if (isWord(WIND)) {
        told = 3;
      } else {
        token = BAD;
      }
    }

    private boolean isWord(String name) {
      int many = name.length();
      if (at - start != many) {
        return false;
      }
      for (int i = 0; i < many; i++) {
        if (bytes[start + i] != name.charAt(i)) {
          return false;
        }
      }
      return true;
    }
  }

  /** The sheets: rows of numbers; one of 0 bits is missing. */
  private static final class Sheets {
    static final int MANY = 4;
    static final int MOST = 24;

    final int[] bits = new int[MANY];
    final int[] size = new int[MANY];
    final int[][] numbers = new int[MANY][MOST];

    static boolean has(int s) {
      return within(s, 0, MANY - 1);
    }

    static boolean isBits(int bits) {
      return bits == 0 || bits == 8 || bits == 16 || bits == 32;
    }

    static int lowest(int bits, int v) {
      if (bits == 8) {
        return (byte) v;
      }
      return bits == 16 ? (short) v : v;
    }

    int lay(int s, int bitsOf, int n) {
      bits[s] = bitsOf;
      size[s] = bitsOf == 0 ? 0 : n;
      for (int i = 0; i < size[s]; i++) {
        numbers[s][i] = 0;
      }
      return size[s];
    }

    boolean hasPart(int s, int from, int n) {
      return from >= 0 && n >= 0 && n <= size[s] && from <= size[s] - n;
    }
  }
}
