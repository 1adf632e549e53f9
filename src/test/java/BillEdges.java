/** Edges of section 6 and of promises 35 and 36: shares, bills, and who is late. */
final class BillEdges {
  private static final int BEYOND = Due.BEYOND;

  private BillEdges() {}

  static void tell(Sentences doc) {
    doc.says("t6", "A SHARE: a sum (0 to 9999) for a GLIDER is parted among its OWNERS: each as much by how many they are;", BillEdges::parted);
    doc.says("t6", "what is left by ones to the least.", BillEdges::left);
    doc.says("t6", "LATE by a MINUTE are ASKS that wait, and would still wait behind it (that MINUTE gone, too), if nothing more were told.", BillEdges::late);
    doc.says("p35", "A SHARE of a sum for a GLIDER comes to its OWNERS' BILLS: how many there are.", BillEdges::share);
    doc.says("p35", "BEYOND: no such GLIDER, sum.", BillEdges::shareBeyond);
    doc.says("p35", "NONE: it has none.", BillEdges::shareOfNobody);
    doc.says("p36", "A PERSON pays so much (1 to 99999) of the BILL: what is left. BEYOND.", BillEdges::pay);
    doc.says("p36", "STATE: the BILL is less.", BillEdges::payTooMuch);
  }

  private static TowField owned(int people, int owners) {
    TowField x = new TowField();
    for (int i = 0; i < people; i++) {
      x.person(60, 0);
    }
    x.glider(1, 100, 0, owners);
    return x;
  }

  private static void parted(Due due) {
    Edges.range(due, "sum", 0, 9999, () -> owned(1, 1), (x, v) -> x.share(0, v));
    for (int people = 1; people <= 14; people++) {
      for (int each = 0; each <= 9999 / people; each += 9999 / people) {
        TowField x = owned(people, (1 << people) - 1);
        due.is("of " + people, x.share(0, each * people), people);
        for (int person = 0; person < people; person++) {
          due.is("the BILL of " + person, x.personIs(person, 3), each);
        }
      }
    }
  }

  private static void left(Due due) {
    for (int many = 1; many <= 14; many++) {
      for (int sum : new int[] {0, 1, many - 1, many, many + 1, 9998, 9999}) {
        TowField x = owned(many, (1 << many) - 1);
        x.share(0, sum);
        for (int person = 0; person < many; person++) {
          due.is(sum + " among " + many + ", " + person, x.personIs(person, 3), sum / many + (person < sum % many ? 1 : 0));
        }
        due.is("nothing is lost", x.count(12), sum);
      }
    }
    TowField y = owned(14, 1 << 13 | 1 << 6 | 1 << 2);
    y.share(0, 5);
    int[] bills = {0, 0, 2, 0, 0, 0, 2, 0, 0, 0, 0, 0, 0, 1};
    for (int person = 0; person < 14; person++) {
      due.is("owners 2, 6, 13: " + person, y.personIs(person, 3), bills[person]);
    }
  }

  private static void late(Due due) {
    TowField x = Edges.pairs(2);
    x.ask(0, -1, 0, 14, 60);
    x.ask(1, -1, 1, 14, 60);
    x.ask(0, -1, 0, 14, 60);
    due.is("by 0: that MINUTE gone, too", x.late(0), 6);
    due.is("by 1", x.late(1), 4);
    // 0 comes down in 61, and 2 starts then.
    due.is("by 60", x.late(60), 4);
    due.is("by 61", x.late(61), 0);
    x.wind(16);
    due.is("none would start", x.late(200), 7);
    x.wind(15);
    Due.text(x, 0, "kind=4");
    due.is("all are barred", x.late(200), 7);
  }

  private static void share(Due due) {
    for (int owners : new int[] {1, 2, 8192, 3, 16383, 8193}) {
      TowField x = owned(14, owners);
      due.is("owners " + owners, x.share(0, 9999), Integer.bitCount(owners));
      due.is("again", x.share(0, 9999), Integer.bitCount(owners));
      due.is("BILLS together", x.count(12), 2 * 9999);
      for (int person = 0; person < 14; person++) {
        due.holds("only owners, " + person, x.personIs(person, 3) > 0 == ((owners >> person & 1) == 1));
      }
    }
    TowField y = owned(2, 3);
    due.is("a sum of 0", y.share(0, 0), 2);
    due.is("brings nothing", y.count(12), 0);
  }

  private static void shareBeyond(Due due) {
    Edges.range(due, "sum", 0, 9999, () -> owned(14, 16383), (x, v) -> x.share(0, v));
    Edges.range(due, "one glider", 0, 0, () -> owned(1, 1), (x, v) -> x.share(v, 0));
    Edges.range(due, "ten gliders", 0, 9, () -> Edges.pairs(10), (x, v) -> x.share(v, 9999));
    due.is("no glider", new TowField().share(0, 1), BEYOND);
  }

  private static void shareOfNobody(Due due) {
    for (int sum : Edges.around(0, 9999)) {
      due.is("sum " + sum, owned(14, 0).share(0, sum), sum >= 0 && sum <= 9999 ? Due.NONE : BEYOND);
    }
    due.is("no glider is asked first", owned(14, 0).share(1, 5), BEYOND);
  }

  /** A PERSON whose BILL is so much. */
  private static TowField owing(int bill) {
    TowField x = owned(1, 1);
    for (int left = bill; left > 0; left -= 9999) {
      x.share(0, Math.min(9999, left));
    }
    return x;
  }

  private static void pay(Due due) {
    Edges.range(due, "coins", 1, 99999, () -> owing(100000), (x, v) -> x.pay(0, v));
    Edges.range(due, "person", 0, 0, () -> owing(5), (x, v) -> x.pay(v, 5));
    due.is("nobody", new TowField().pay(0, 1), BEYOND);
    due.is("the least", owing(100000).pay(0, 1), 99999);
    TowField x = owing(100000);
    due.is("the largest", x.pay(0, 99999), 1);
    due.is("the rest", x.pay(0, 1), 0);
    due.is("told", x.personIs(0, 3), 0);
    TowField y = Edges.pairs(10);
    y.share(9, 7);
    due.is("of the last one", y.pay(9, 3), 4);
    due.is("together", y.count(12), 4);
  }

  private static void payTooMuch(Due due) {
    for (int bill : new int[] {0, 1, 2, 9999, 10000, 99998, 99999}) {
      TowField x = owing(bill);
      if (bill < 99999) {
        due.is("one more than " + bill, x.pay(0, bill + 1), Due.STATE);
      }
      due.is("the BILL stays", x.personIs(0, 3), bill);
      if (bill > 0) {
        due.is("just " + bill, x.pay(0, bill), 0);
      }
      due.is("nothing is owed", x.pay(0, 1), Due.STATE);
    }
    due.is("coins are asked first", owing(0).pay(0, 100000), BEYOND);
    due.is("0 coins are asked first", owing(0).pay(0, 0), BEYOND);
  }
}
