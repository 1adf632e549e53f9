/** Edges of section 7 and of promises 37 to 39: sheets. */
final class SheetEdges {
  private static final int BEYOND = Due.BEYOND;
  private static final int[] BITS = {8, 16, 32};

  private SheetEdges() {}

  static void tell(Sentences doc) {
    doc.says("t7", "SHEETS 0 to 3 are rows of at most 24 numbers of 8, 16 or 32 bits", SheetEdges::rows);
    doc.says("t7", "(told with their sign: of 8 bits 255 is -1),", SheetEdges::sign);
    doc.says("t7", "or MISSING (at first).", SheetEdges::missing);
    doc.says("p37", "A sheet has n numbers, all 0, of 8, 16 or 32 bits: n;", SheetEdges::sheet);
    doc.says("p37", "with bits 0 it is MISSING: 0.", SheetEdges::sheetOfNoBits);
    doc.says("p37", "BEYOND: no such sheet, bits.", SheetEdges::sheetBeyond);
    doc.says("p37", "SIZE: n is below 0. BEYOND: n is above 24. (Also with bits 0.)", SheetEdges::sheetSize);
    doc.says("p38", "Number i of a sheet becomes v (its lowest bits): 1.", SheetEdges::write);
    doc.says("p38", "BEYOND: no such sheet. MISSING. BEYOND: no such number.", SheetEdges::writeRefused);
    doc.says("p39", "n numbers of a sheet from one on come to another one from one on (as they all were): n.", SheetEdges::copy);
    doc.says("p39", "BEYOND: no such sheet (either). MISSING: one is. KIND: they are not of as many bits.", SheetEdges::copyRefused);
    doc.says("p39", "BEYOND: one has not so many, or from, to or n is below 0.", SheetEdges::copyBeyond);
  }

  /**
   * The value of a number of a sheet, of those that can be asked for: check tells 0, and 1, 10 and 11 by a field on which such a
   * MINUTE is ahead.
   */
  private static TowField aheadOf(int tells) {
    TowField x = Edges.pairs(2);
    if (tells >= 10) {
      x.ask(0, -1, 0, 14, 2);
      x.run(3);
    }
    if (tells % 10 == 1) {
      x.ask(1, -1, 1, 14, 60);
    }
    return x;
  }

  private static void rows(Due due) {
    for (int s = 0; s < 4; s++) {
      for (int bits : BITS) {
        for (int n = 0; n <= 24; n++) {
          due.is("sheet " + s + " of " + n, new TowField().sheet(s, bits, n), n);
          due.is("has", Edges.withSheet(s, bits, n).check(s), n);
        }
        due.is("of 25", new TowField().sheet(s, bits, 25), BEYOND);
      }
    }
    TowField x = new TowField();
    for (int s = 0; s < 4; s++) {
      x.sheet(s, 8, 21 + s);
      x.write(s, 5 * s, 1);
    }
    for (int s = 0; s < 4; s++) {
      due.is("each has its own numbers", x.check(s), 5 * s);
      x.write(s, 5 * s, 0);
      due.is("and how many", x.check(s), 21 + s);
    }
  }

  /** As a number of these bits is held with its sign, 256 and 1 are one of 8 bits, 255 and -1 too, and 255 isn't 11. */
  private static void sign(Due due) {
    for (int tells : new int[] {0, 1, 10, 11}) {
      for (int bits : BITS) {
        long round = 1L << bits;
        long[] same = {tells, tells + round, tells - round, tells + 3 * round, tells | 0xFFFFFFFFL << bits};
        for (long v : same) {
          TowField x = aheadOf(tells);
          x.sheet(0, bits, 1);
          x.write(0, 0, (int) v);
          due.is((int) v + " of " + bits + " bits is " + tells, x.check(0), 1);
        }
        long[] others = {tells + round / 2, tells - round / 2, tells + 1, tells - 1, ~tells, tells + round - 1};
        for (long v : others) {
          TowField x = aheadOf(tells);
          x.sheet(0, bits, 1);
          x.write(0, 0, (int) v);
          due.is((int) v + " of " + bits + " bits isn't " + tells, x.check(0), 0);
        }
      }
    }
  }

  private static void missing(Due due) {
    for (int s = 0; s < 4; s++) {
      due.is("check", new TowField().check(s), Due.MISSING);
      due.is("write", new TowField().write(s, 0, 1), Due.MISSING);
      due.is("copy", new TowField().copy(s, 0, s, 0, 0), Due.MISSING);
      TowField x = Edges.withSheet(s, 32, 0);
      for (int other = 0; other < 4; other++) {
        due.is("only " + s + " is there, " + other, x.check(other), other == s ? 0 : Due.MISSING);
      }
    }
  }

  private static void sheet(Due due) {
    for (int bits : BITS) {
      TowField x = Edges.withSheet(2, bits, 24);
      for (int i = 0; i < 24; i++) {
        x.write(2, i, -1);
      }
      due.is("written", x.check(2), 0);
      due.is("anew", x.sheet(2, bits, 24), 24);
      due.is("all 0", x.check(2), 24);
      x.write(2, 23, 1);
      due.is("fewer", x.sheet(2, bits, 3), 3);
      due.is("has 3", x.check(2), 3);
      due.is("no more", x.write(2, 3, 1), BEYOND);
      due.is("more again", x.sheet(2, bits, 24), 24);
      due.is("all 0 again", x.check(2), 24);
      due.is("of none", x.sheet(2, bits, 0), 0);
      due.is("no number", x.write(2, 0, 1), BEYOND);
    }
  }

  private static void sheetOfNoBits(Due due) {
    for (int n = 0; n <= 24; n++) {
      TowField x = Edges.withSheet(1, 8, 24);
      due.is("n " + n, x.sheet(1, 0, n), 0);
      due.is("is missing", x.check(1), Due.MISSING);
      due.is("missing is made missing", x.sheet(1, 0, n), 0);
    }
  }

  private static void sheetBeyond(Due due) {
    Edges.range(due, "sheet", 0, 3, TowField::new, (x, v) -> x.sheet(v, 8, 1));
    Edges.range(due, "sheet made missing", 0, 3, TowField::new, (x, v) -> x.sheet(v, 0, 1));
    for (int bits : Edges.around(0, 40)) {
      boolean fine = bits == 0 || bits == 8 || bits == 16 || bits == 32;
      due.is("bits " + bits, new TowField().sheet(0, bits, 2), fine ? bits == 0 ? 0 : 2 : BEYOND);
      due.is("bits " + bits + ", n -1", new TowField().sheet(0, bits, -1), fine ? Due.SIZE : BEYOND);
      due.is("bits " + bits + ", n 25", new TowField().sheet(0, bits, 25), BEYOND);
    }
  }

  private static void sheetSize(Due due) {
    for (int bits : new int[] {0, 8, 16, 32}) {
      for (int n : Edges.around(0, 24)) {
        TowField x = Edges.withSheet(0, 16, 5);
        int want = n < 0 ? Due.SIZE : n > 24 ? BEYOND : bits == 0 ? 0 : n;
        due.is("bits " + bits + " n " + n, x.sheet(0, bits, n), want);
        if (Due.isFinding(want)) {
          due.is("it stays", x.check(0), 5);
        }
        due.is("no such sheet is asked first", new TowField().sheet(4, bits, n), BEYOND);
      }
    }
  }

  private static void write(Due due) {
    for (int bits : BITS) {
      for (int i = 0; i < 24; i++) {
        TowField x = Edges.withSheet(0, bits, 24);
        due.is("number " + i, x.write(0, i, 1), 1);
        due.is("is there", x.check(0), i);
        due.is("0 again", x.write(0, i, 0), 1);
        due.is("all 0", x.check(0), 24);
        for (int bit = 0; bit < 32; bit++) {
          x.write(0, i, 1 << bit);
          due.is("bit " + bit + " of " + bits, x.check(0), bit < bits ? i : 24);
        }
      }
    }
  }

  private static void writeRefused(Due due) {
    Edges.range(due, "number", 0, 4, () -> Edges.withSheet(3, 8, 5), (x, v) -> x.write(3, v, 1));
    Edges.range(due, "number of 24", 0, 23, () -> Edges.withSheet(0, 32, 24), (x, v) -> x.write(0, v, 1));
    for (int i : Edges.around(0, 24)) {
      due.is("no number, " + i, Edges.withSheet(0, 8, 0).write(0, i, 1), BEYOND);
      due.is("missing is asked first, " + i, new TowField().write(0, i, 1), Due.MISSING);
      due.is("no such sheet is asked first, " + i, new TowField().write(4, i, 1), BEYOND);
    }
    for (int s : Edges.around(0, 3)) {
      due.is("sheet " + s, new TowField().write(s, 0, 1), s >= 0 && s <= 3 ? Due.MISSING : BEYOND);
    }
  }

  /** The numbers of sheet 0 are those that tell what is ahead, but moved by so many places. */
  private static void copy(Due due) {
    int[] row = {1, 0, 0, 10, 0, 0};
    for (int shift = -3; shift <= 3; shift++) {
      for (int other = 0; other < 2; other++) {
        TowField x = Edges.oneAsk(2);
        x.sheet(0, 8, 24);
        x.sheet(1, 8, 24);
        for (int i = 0; i < row.length; i++) {
          int place = i - shift;
          if (place >= 0) {
            x.write(0, place, row[i]);
          }
        }
        int from = Math.max(0, -shift);
        int to = Math.max(0, shift);
        due.is("by " + shift, x.copy(0, from, other, to, 20), 20);
        x.write(other, 0, 1);
        for (int i = 1; i < to; i++) {
          x.write(other, i, 0);
        }
        due.is("as they all were, by " + shift + " to " + other, x.check(other), 24);
      }
    }
    TowField y = Edges.withSheet(0, 8, 24);
    due.is("all of them onto themselves", y.copy(0, 0, 0, 0, 24), 24);
    y.write(0, 23, 1);
    y.sheet(3, 8, 1);
    due.is("the last to the only one", y.copy(0, 23, 3, 0, 1), 1);
    due.is("came", y.check(3), 0);
    due.is("none", y.copy(0, 0, 3, 0, 0), 0);
    due.is("only those: the one behind stays", y.copy(0, 0, 0, 22, 1), 1);
    due.is("the last stays", y.check(0), 23);
    y.sheet(2, 16, 2);
    y.sheet(1, 16, 2);
    y.write(2, 0, 256);
    y.copy(2, 0, 1, 0, 2);
    due.is("all 16 bits come", y.check(1), 0);
  }

  private static void copyRefused(Due due) {
    for (int s : Edges.around(0, 3)) {
      boolean there = s >= 0 && s <= 3;
      due.is("from sheet " + s, new TowField().copy(s, 0, 0, 0, 0), there ? Due.MISSING : BEYOND);
      due.is("to sheet " + s, new TowField().copy(0, 0, s, 0, 0), there ? Due.MISSING : BEYOND);
      due.is("sheets are asked ahead of all, " + s, new TowField().copy(0, -1, s, -1, -1), there ? Due.MISSING : BEYOND);
    }
    TowField x = Edges.withSheet(0, 8, 2);
    due.is("to a missing one", x.copy(0, 0, 1, 0, 1), Due.MISSING);
    due.is("from a missing one", x.copy(1, 0, 0, 0, 1), Due.MISSING);
    due.is("missing is asked ahead of numbers", x.copy(0, -1, 1, 0, 1), Due.MISSING);
    for (int a : BITS) {
      for (int b : BITS) {
        TowField y = Edges.withSheet(0, a, 2);
        y.sheet(3, b, 2);
        due.is(a + " to " + b, y.copy(0, 0, 3, 0, 2), a == b ? 2 : Due.KIND);
        due.is(a + " to " + b + ", none", y.copy(0, 0, 3, 0, 0), a == b ? 0 : Due.KIND);
        due.is(a + " to " + b + ", too many", y.copy(0, 0, 3, 0, 3), a == b ? BEYOND : Due.KIND);
        due.is(a + " to " + b + ", below 0", y.copy(0, -1, 3, 0, 1), a == b ? BEYOND : Due.KIND);
      }
    }
  }

  private static void copyBeyond(Due due) {
    int[] values = {Integer.MIN_VALUE, -2, -1, 0, 1, 2, 3, 4, 5, 6, 24, 25, Integer.MAX_VALUE - 1, Integer.MAX_VALUE};
    for (int from : values) {
      for (int to : values) {
        for (int n : values) {
          TowField x = Edges.withSheet(0, 8, 5);
          x.sheet(1, 8, 3);
          boolean fine = from >= 0 && to >= 0 && n >= 0 && (long) from + n <= 5 && (long) to + n <= 3;
          due.is("from " + from + " to " + to + ", " + n, x.copy(0, from, 1, to, n), fine ? n : BEYOND);
        }
      }
    }
    TowField y = Edges.withSheet(0, 8, 0);
    due.is("none of none", y.copy(0, 0, 0, 0, 0), 0);
    due.is("one of none", y.copy(0, 0, 0, 0, 1), BEYOND);
  }
}
