import java.util.function.Supplier;

/** The bounds of promises 26 to 29: SHEETS, their cells, FLAWS by a SHEET, and KILTS taken for one of a STYLE. */
public final class BoundsOfTheHost {
  private static final int BAD = Check.BAD, NOTHING = Check.NOTHING, OUTSIDE = Check.OUTSIDE;
  private static final int OTHER_SORT = Check.OTHER_SORT, BELOW_0 = Check.BELOW_0, MIN = Check.MIN, MAX = Check.MAX;

  public static void main(String[] args) {
    sheetNumbers();
    sheetSorts();
    sheetSizes();
    sheetBadAheadOfBelow0();
    sheetMissing();
    sheetAllZero();
    cellPlaces();
    cellOfNoRow();
    cellRefuses();
    cellOrder();
    cellBytes();
    cellShorts();
    cellInts();
    flawsMany();
    flawsRefuses();
    flawsOtherSort();
    flawsOfMissing();
    flawsOrder();
    flawsFrom();
    flawsFarPlaces();
    flawsAheadCame();
    flawsLeftOut();
    flawsFull();
    flawsOfNone();
    takenUnder();
    takenRefuses();
    takenOrder();
    Check.end("BoundsOfTheHost");
  }

  private static void due(long got, long want) {
    Check.due(got, want);
  }

  /** A BOLT of 9999 threads and no SHEET. */
  private static Room plain() {
    return Room.of("a1;", 9999);
  }

  /** The BOLT has FLAWS at these THREADS, and no others near by. */
  private static void marred(Room x, int... threads) {
    for (int t : threads) due(x.flaw(0, t), BAD);
    due(x.flaw(0, 9998), threads.length + 1);
  }

  // ---- promise 26

  private static void sheetNumbers() {
    Check.sentence(26, "SHEETS 0 .. 3; BAD: no such SHEET");
    for (int s = 0; s < 4; s++) {
      Room x = plain();
      due(x.sheet(s, 0, 1), 1);
      for (int t = 0; t < 4; t++) due(x.cell(t, 0, 5), t == s ? 1 : NOTHING);
    }
    for (int s : new int[] {-1, 4, MIN, MAX}) {
      for (int sort = -1; sort < 3; sort++) {
        int of = sort;
        Check.refused(BAD, Room::some, x -> x.sheet(s, of, 1));
      }
    }
  }

  private static void sheetSorts() {
    Check.sentence(26, "of sort 0 bytes, 1 shorts, 2 ints; BAD: no such .. sort");
    for (int sort = 0; sort < 3; sort++) {
      Room x = plain();
      due(x.sheet(0, sort, 1), 1);
      for (int other = 0; other < 3; other++) due(x.flaws(0, 0, other, 0, 1), other == sort ? 1 : OTHER_SORT);
    }
    for (int sort : new int[] {-2, 3, MIN, MAX}) Check.refused(BAD, Room::some, x -> x.sheet(0, sort, 4));
  }

  private static void sheetSizes() {
    Check.sentence(26, "a row of n; BAD: .. n above 40; -14");
    for (int sort = 0; sort < 3; sort++) {
      int of = sort;
      for (int n : new int[] {0, 1, 39, 40}) {
        Room x = plain();
        due(x.sheet(1, sort, n), 1);
        for (int i = 0; i < n; i++) due(x.cell(1, i, 0), 1);
        due(x.cell(1, n, 0), OUTSIDE);
        due(x.cell(1, -1, 0), OUTSIDE);
      }
      for (int n : new int[] {41, 42, MAX}) Check.refused(BAD, Room::some, x -> x.sheet(0, of, n));
      for (int n : new int[] {-1, -40, MIN}) Check.refused(BELOW_0, Room::some, x -> x.sheet(0, of, n));
      for (int n : new int[] {41, MAX}) Check.refused(BAD, Room::some, x -> x.sheet(1, of, n));
      for (int n : new int[] {-1, MIN}) Check.refused(BELOW_0, Room::some, x -> x.sheet(1, of, n));
    }
  }

  private static void sheetBadAheadOfBelow0() {
    Check.sentence(26, "BAD: no such SHEET, sort; n above 40; -14.");
    for (int n : new int[] {-1, MIN, 41}) {
      for (int s : new int[] {-1, 4}) Check.refused(BAD, Room::some, x -> x.sheet(s, 0, n));
      for (int sort : new int[] {-2, 3}) Check.refused(BAD, Room::some, x -> x.sheet(0, sort, n));
    }
    Check.refused(BELOW_0, Room::some, x -> x.sheet(0, 2, -1));
  }

  private static void sheetMissing() {
    Check.sentence(26, "or missing (sort -1: n does not matter): 1");
    for (int n : new int[] {0, 1, 40, 41, -1, MIN, MAX}) {
      Room x = Room.some();
      due(x.sheet(0, -1, n), 1);
      due(x.cell(0, 0, 1), NOTHING);
      due(x.flaws(0, 0, 1, 0, 1), NOTHING);
      due(x.sheet(3, -1, n), 1);
      due(x.cell(3, 0, 1), NOTHING);
      due(x.sheet(3, 0, 2), 1);
      due(x.cell(3, 1, 1), 1);
    }
    for (int s : new int[] {-1, 4}) Check.refused(BAD, Room::some, x -> x.sheet(s, -1, 0));
  }

  private static void sheetAllZero() {
    Check.sentence(26, "A SHEET becomes a row of n of a sort, all 0");
    for (int was = 0; was < 3; was++) {
      for (int sort = 0; sort < 3; sort++) {
        Room x = plain();
        x.sheet(0, was, 40);
        for (int i = 0; i < 20; i++) x.cell(0, i, 50 + i);
        if (sort == 1) x.sheet(0, -1, 0);
        due(x.sheet(0, sort, 20), 1);
        due(x.flaws(0, 0, sort, 0, 20), 1);
        marred(x, 0);
      }
    }
  }

  // ---- promise 27

  private static void cellPlaces() {
    Check.sentence(27, "Item i of a SHEET becomes v: 1. .. -12");
    for (int n : new int[] {1, 4, 40}) {
      Supplier<Room> maker = () -> {
        Room x = plain();
        x.sheet(2, 2, n);
        return x;
      };
      for (int i : new int[] {-1, n, n + 1, MIN, MAX}) Check.refused(OUTSIDE, maker, x -> x.cell(2, i, 7));
      Room x = maker.get();
      due(x.cell(2, 0, 77), 1);
      due(x.cell(2, n - 1, 78), 1);
      due(x.flaws(0, 2, 2, n - 1, 1), 1);
      due(x.flaw(0, 78), BAD);
      due(x.flaws(0, 2, 2, 0, 1), n == 1 ? 0 : 1);
    }
  }

  private static void cellOfNoRow() {
    Check.sentence(27, "-12 (of a row of 0)");
    Supplier<Room> maker = () -> {
      Room x = plain();
      x.sheet(0, 2, 0);
      return x;
    };
    for (int i : new int[] {0, 1, -1}) Check.refused(OUTSIDE, maker, x -> x.cell(0, i, 7));
  }

  private static void cellRefuses() {
    Check.sentence(27, "BAD: no such SHEET; -11; -12.");
    for (int s : new int[] {-1, 4, MIN, MAX}) Check.refused(BAD, Room::some, x -> x.cell(s, 0, 7));
    for (int s : new int[] {1, 3}) Check.refused(NOTHING, Room::some, x -> x.cell(s, 0, 7));
    Check.refused(OUTSIDE, Room::some, x -> x.cell(0, 4, 7));
    Check.refused(OUTSIDE, Room::some, x -> x.cell(2, 0, 7));
  }

  private static void cellOrder() {
    Check.sentence(27, "BAD: no such SHEET; -11; -12. (in this order)");
    for (int i : new int[] {-1, 40, 99}) {
      Check.refused(BAD, Room::some, x -> x.cell(4, i, 7));
      Check.refused(NOTHING, Room::some, x -> x.cell(1, i, 7));
      Check.refused(OUTSIDE, Room::some, x -> x.cell(0, i, 7));
    }
  }

  /** A number in a cell of a sort is a FLAW at a THREAD, or (THREAD below 0) none that can come. */
  private static void held(int sort, int number, int thread) {
    Room x = plain();
    x.sheet(0, sort, 1);
    due(x.cell(0, 0, number), 1);
    due(x.flaws(0, 0, sort, 0, 1), thread < 0 ? 0 : 1);
    if (thread >= 0) due(x.flaw(0, thread), BAD);
    due(x.flaw(0, 9998), thread < 0 ? 1 : 2);
  }

  private static void cellBytes() {
    Check.sentence(27, "Item i of a SHEET becomes v (of bytes .. its lowest 8 .. bits)");
    held(0, 127, 127);
    held(0, 128, -1);
    held(0, 255, -1);
    held(0, 256, 0);
    held(0, 257, 1);
    held(0, 256 + 127, 127);
    held(0, 256 + 128, -1);
    held(0, -1, -1);
    held(0, -128, -1);
    held(0, -129, 127);
    held(0, -256, 0);
    held(0, MAX, -1);
    held(0, MIN, 0);
    held(0, 0x7FFFFF05, 5);
  }

  private static void cellShorts() {
    Check.sentence(27, "Item i of a SHEET becomes v (of .. shorts its lowest .. 16 bits)");
    held(1, 127, 127);
    held(1, 128, 128);
    held(1, 255, 255);
    held(1, 256, 256);
    held(1, 9997, 9997);
    held(1, 32767, -1);
    held(1, 32768, -1);
    held(1, 65535, -1);
    held(1, 65536, 0);
    held(1, 65536 + 300, 300);
    held(1, -65536 + 300, 300);
    held(1, -1, -1);
    held(1, MIN, 0);
    held(1, MAX, -1);
  }

  private static void cellInts() {
    Check.sentence(27, "Item i of a SHEET becomes v (of ints: whole)");
    held(2, 128, 128);
    held(2, 9997, 9997);
    held(2, 65536, -1);
    held(2, 65536 + 300, -1);
    held(2, 256, 256);
    held(2, -1, -1);
    held(2, MIN, -1);
    held(2, MAX, -1);
    held(2, MIN + 5, -1);
  }

  // ---- promise 28

  /** SHEET 0: 25 ints from 100 on. */
  private static Room hundred() {
    Room x = plain();
    int[] numbers = new int[25];
    for (int i = 0; i < 25; i++) numbers[i] = 100 + i;
    return x.ints(0, numbers);
  }

  private static void flawsMany() {
    Check.sentence(28, "from one on, n of them (0 .. 20): how many came");
    due(hundred().flaws(0, 0, 2, 0, 0), 0);
    due(hundred().flaws(0, 0, 2, 0, 1), 1);
    due(hundred().flaws(0, 0, 2, 3, 7), 7);
    due(hundred().flaws(0, 0, 2, 0, 20), 10);
    Room x = hundred();
    due(x.flaws(0, 0, 2, 3, 7), 7);
    marred(x, 103, 104, 105, 106, 107, 108, 109);
    Room y = plain().ints(0, 7, 7, 7, 7, 7, 7, 7, 7, 7, 7, 7, 7, 7, 7, 7, 7, 7, 7, 7, 9, 11);
    due(y.flaws(0, 0, 2, 0, 19), 1);
    due(y.flaws(0, 0, 2, 0, 20), 1);
    marred(y, 7, 9);
  }

  private static void flawsRefuses() {
    Check.sentence(28, "BAD: no such BOLT, SHEET, sort, n");
    for (int b : new int[] {-1, 1, 4, MIN, MAX}) Check.refused(BAD, BoundsOfTheHost::hundred, x -> x.flaws(b, 0, 2, 0, 1));
    for (int s : new int[] {-1, 4, MIN, MAX}) Check.refused(BAD, BoundsOfTheHost::hundred, x -> x.flaws(0, s, 2, 0, 1));
    for (int sort : new int[] {-2, -1, 3, MIN, MAX}) Check.refused(BAD, BoundsOfTheHost::hundred, x -> x.flaws(0, 0, sort, 0, 1));
    for (int n : new int[] {-1, 21, MIN, MAX}) Check.refused(BAD, BoundsOfTheHost::hundred, x -> x.flaws(0, 0, 2, 0, n));
    due(Room.full().flaws(3, 2, 2, 0, 20), 1);
    Check.refused(BAD, Room::full, x -> x.flaws(4, 2, 2, 0, 20));
  }

  private static void flawsOtherSort() {
    Check.sentence(28, "-13 (a SHEET that is taken for one of a sort that is not its own)");
    for (int sort = 0; sort < 3; sort++) {
      for (int other = 0; other < 3; other++) {
        int of = sort;
        int as = other;
        Supplier<Room> maker = () -> {
          Room x = plain();
          x.sheet(3, of, 2);
          x.cell(3, 0, 60);
          x.cell(3, 1, 61);
          return x;
        };
        if (of == as) due(maker.get().flaws(0, 3, as, 0, 2), 2);
        else Check.refused(OTHER_SORT, maker, x -> x.flaws(0, 3, as, 0, 2));
      }
    }
  }

  private static void flawsOfMissing() {
    Check.sentence(28, "-11 (the SHEET is missing: it is of no other sort)");
    for (int sort = 0; sort < 3; sort++) {
      int of = sort;
      for (int n : new int[] {0, 1, 20}) {
        for (int from : new int[] {0, -1, 99}) Check.refused(NOTHING, BoundsOfTheHost::hundred, x -> x.flaws(0, 1, of, from, n));
      }
      Room x = hundred();
      x.sheet(0, -1, 0);
      due(x.flaws(0, 0, sort, 0, 1), NOTHING);
    }
  }

  private static void flawsOrder() {
    Check.sentence(28, "BAD: no such BOLT, SHEET, sort, n; -13; -11; -12 (in this order)");
    // a missing SHEET, one of another sort, a place outside
    for (int s : new int[] {1, 0}) {
      for (int sort = 0; sort < 3; sort++) {
        int of = sort;
        Check.refused(BAD, BoundsOfTheHost::hundred, x -> x.flaws(1, s, of, 99, 1));
        Check.refused(BAD, BoundsOfTheHost::hundred, x -> x.flaws(0, s, of, 99, 21));
        Check.refused(BAD, BoundsOfTheHost::hundred, x -> x.flaws(0, s, of, 99, -1));
      }
      Check.refused(BAD, BoundsOfTheHost::hundred, x -> x.flaws(0, s, 3, 99, 1));
      Check.refused(BAD, BoundsOfTheHost::hundred, x -> x.flaws(0, s, -1, 99, 1));
    }
    for (int from : new int[] {-1, 25, 99}) {
      Check.refused(OTHER_SORT, BoundsOfTheHost::hundred, x -> x.flaws(0, 0, 1, from, 1));
      Check.refused(NOTHING, BoundsOfTheHost::hundred, x -> x.flaws(0, 1, 1, from, 1));
      Check.refused(OUTSIDE, BoundsOfTheHost::hundred, x -> x.flaws(0, 0, 2, from, 1));
    }
    Check.refused(OTHER_SORT, BoundsOfTheHost::hundred, x -> x.flaws(0, 0, 0, 0, 0));
  }

  private static void flawsFrom() {
    Check.sentence(28, "from one on, n of them; -12");
    due(hundred().flaws(0, 0, 2, 24, 1), 1);
    due(hundred().flaws(0, 0, 2, 15, 10), 10);
    due(hundred().flaws(0, 0, 2, 5, 20), 10);
    Check.refused(OUTSIDE, BoundsOfTheHost::hundred, x -> x.flaws(0, 0, 2, 25, 1));
    Check.refused(OUTSIDE, BoundsOfTheHost::hundred, x -> x.flaws(0, 0, 2, -1, 1));
    Check.refused(OUTSIDE, BoundsOfTheHost::hundred, x -> x.flaws(0, 0, 2, -1, 20));
    due(hundred().flaws(0, 0, 2, 24, 2), OUTSIDE);
    due(hundred().flaws(0, 0, 2, 6, 20), OUTSIDE);
    Room x = plain();
    x.sheet(0, 2, 0);
    due(x.flaws(0, 0, 2, 0, 1), OUTSIDE);
    due(x.flaws(0, 0, 2, 0, 0), 0);
  }

  private static void flawsFarPlaces() {
    Check.sentence(28, "-12 (a place outside, however far)");
    for (int from : new int[] {MIN, MIN + 1, MIN + 20, -20, -19, 26, MAX - 20, MAX - 1, MAX}) {
      for (int n : new int[] {1, 20}) Check.refused(OUTSIDE, BoundsOfTheHost::hundred, x -> x.flaws(0, 0, 2, from, n));
    }
  }

  private static void flawsAheadCame() {
    Check.sentence(28, "-12: what stood ahead came");
    Room x = hundred();
    due(x.flaws(0, 0, 2, 22, 4), OUTSIDE);
    marred(x, 122, 123, 124);
    Room y = hundred();
    due(y.flaws(0, 0, 2, 24, 20), OUTSIDE);
    marred(y, 124);
    // what stood ahead, but for what can't come
    Room z = plain().ints(0, 5, 5, -1, 9999, 8);
    due(z.flaws(0, 0, 2, 0, 6), OUTSIDE);
    marred(z, 5, 8);
    Room full = hundred();
    due(full.flaws(0, 0, 2, 6, 20), OUTSIDE);
    for (int t = 106; t < 116; t++) due(full.flaw(0, t), BAD);
    due(full.flaw(0, 116), Check.FULL);
  }

  private static void flawsLeftOut() {
    Check.sentence(28, "how many came (others are left out)");
    Room x = plain().ints(0, 0, -1, 9998 + 1, 9997, 0, MIN, MAX, 50, 50, 9997);
    x.flaw(0, 50);
    due(x.flaws(0, 0, 2, 0, 10), 2);
    marred(x, 50, 0, 9997);
    due(x.flaws(0, 0, 2, 0, 10), 0);
    Room y = Room.of("a1;", 100).ints(0, 99, 100, 101, 0, -1);
    due(y.flaws(0, 0, 2, 0, 5), 2);
    due(y.flaw(0, 99), BAD);
    due(y.flaw(0, 0), BAD);
    due(y.flaw(0, 98), 3);
  }

  private static void flawsFull() {
    Check.sentence(28, "how many came (others are left out, as those beyond 10)");
    Room x = hundred();
    for (int f = 0; f < 8; f++) x.flaw(0, f);
    due(x.flaws(0, 0, 2, 0, 3), 2);
    due(x.flaw(0, 100), BAD);
    due(x.flaw(0, 101), BAD);
    due(x.flaw(0, 102), Check.FULL);
    due(x.flaws(0, 0, 2, 0, 20), 0);
    due(x.flaws(0, 0, 2, 10, 20), OUTSIDE);
    Room y = hundred();
    for (int f = 0; f < 10; f++) y.flaw(0, f);
    due(y.flaws(0, 0, 2, 0, 20), 0);
  }

  private static void flawsOfNone() {
    Check.sentence(28, "n of them (0 .. 20) (none: no place is asked for)");
    for (int from : new int[] {0, 24, 25, 99, -1, MIN, MAX}) {
      Check.refused(0, BoundsOfTheHost::hundred, x -> x.flaws(0, 0, 2, from, 0));
    }
  }

  // ---- promise 29

  private static void takenUnder() {
    Check.sentence(29, "A KILT taken for one of STYLE k (0 .. 5), or one under that one (also by others between): v.");
    int[][] above = {{0}, {0, 1}, {0, 2}, {0, 1, 3}, {0, 2, 4}, {0, 1, 3, 5}};
    Room x = Room.of("a80;", 9999);
    for (int style = 0; style < 6; style++) x.kilt(style, 420 + 2 * style, 420 + 2 * style, 0);
    for (int again = 0; again < 2; again++) {
      for (int style = 0; style < 6; style++) {
        for (int k = 0; k < 6; k++) {
          boolean is = false;
          for (int a : above[style]) is |= a == k;
          due(x.taken(style, k), is ? 10 + style : OTHER_SORT);
        }
      }
      // v, whatever they are LET OUT by
      for (int style = 0; style < 6; style++) {
        x.lay(style, 0);
        due(x.let(style, -1), 9 + style);
      }
    }
    Room y = Room.withKilt("a79;", 999, 0);
    y.lay(0, 0);
    due(y.let(0, 9), 19);
    due(y.taken(0, 0), 10);
  }

  private static void takenRefuses() {
    Check.sentence(29, "BAD: k; -11: no such KILT; -13.");
    for (int k : new int[] {-1, 6, MIN, MAX}) Check.refused(BAD, Room::some, x -> x.taken(0, k));
    for (int n : new int[] {-1, 3, 7, 8, MIN, MAX}) Check.refused(NOTHING, Room::some, x -> x.taken(n, 0));
    for (int k = 1; k < 6; k++) {
      int of = k;
      Check.refused(OTHER_SORT, Room::some, x -> x.taken(0, of));
    }
    Check.refused(NOTHING, Room::full, x -> x.taken(8, 0));
    due(Room.full().taken(7, 1), 13);
    due(new Room().taken(0, 0), NOTHING);
  }

  private static void takenOrder() {
    Check.sentence(29, "BAD: k; -11: no such KILT; -13. (in this order)");
    for (int n : new int[] {-1, 3, 8}) {
      Check.refused(BAD, Room::some, x -> x.taken(n, -1));
      Check.refused(BAD, Room::some, x -> x.taken(n, 6));
      for (int k = 0; k < 6; k++) {
        int of = k;
        Check.refused(NOTHING, Room::some, x -> x.taken(n, of));
      }
    }
    Check.refused(BAD, Room::some, x -> x.taken(0, 6));
  }
}
