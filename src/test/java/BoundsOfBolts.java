/** The bounds of promises 8 and 9: BOLTS and FLAWS. */
public final class BoundsOfBolts {
  private static final int BAD = Check.BAD, FULL = Check.FULL, MIN = Check.MIN, MAX = Check.MAX;

  public static void main(String[] args) {
    boltLengths();
    boltOfASett();
    boltsAtMost();
    boltBadAheadOfFull();
    boltBeginsWithoutFlaws();
    flawWithinLength();
    flawLengthEnds();
    flawOnceAtAThread();
    flawsAtMost();
    flawBadAheadOfFull();
    flawOfABolt();
    flawEachBoltItsOwn();
    flawLeavesLaid();
    Check.end("BoundsOfBolts");
  }

  private static void due(long got, long want) {
    Check.due(got, want);
  }

  private static void boltLengths() {
    Check.sentence(8, "with a LENGTH (100 .. 9999 threads ..)");
    for (int length : new int[] {99, 10000, 0, -100, -9999, MIN, MAX}) Check.refused(BAD, Room::some, x -> x.bolt(0, length));
    due(Room.some().bolt(0, 100), 2);
    due(Room.some().bolt(0, 9999), 2);
    due(Room.some().bolt(0, 101), 2);
    due(Room.some().bolt(0, 9998), 2);
  }

  private static void boltOfASett() {
    Check.sentence(8, "BOLTS .. are of a SETT");
    for (int s : new int[] {-1, 2, 3, 4, MIN, MAX}) Check.refused(BAD, Room::some, x -> x.bolt(s, 200));
    Check.refused(BAD, Room::new, x -> x.bolt(0, 100));
    Room x = new Room();
    for (int s = 0; s < 4; s++) {
      due(x.bolt(s, 500), BAD);
      x.sett("a" + (10 + s) + ";");
      due(x.bolt(s, 500), s);
    }
    // a and u hang on the SETT of the BOLT
    x.kilt(0, 420, 420, 0);
    int[] overAprons = {4, 7, 9, 12};
    for (int b = 0; b < 4; b++) {
      x.lay(0, b);
      due(x.laid(0, 0), overAprons[b]);
    }
  }

  private static void boltsAtMost() {
    Check.sentence(8, "BOLTS (4 at most)");
    Room x = new Room();
    x.sett("a1;");
    for (int b = 0; b < 4; b++) {
      due(x.bolt(0, 100 + b), b);
      due(x.count(1), b + 1);
    }
    due(x.bolt(0, 100), FULL);
    due(x.count(1), 4);
    Check.refused(FULL, Room::full, y -> y.bolt(0, 100));
    Check.refused(FULL, Room::full, y -> y.bolt(3, 9999));
    due(Room.full().flaw(3, 5), 1);
    due(Room.full().flaw(4, 5), BAD);
  }

  private static void boltBadAheadOfFull() {
    Check.sentence(8, "BAD; FULL.");
    Check.refused(BAD, Room::full, x -> x.bolt(4, 100));
    Check.refused(BAD, Room::full, x -> x.bolt(-1, 100));
    Check.refused(BAD, Room::full, x -> x.bolt(0, 99));
    Check.refused(BAD, Room::full, x -> x.bolt(0, 10000));
    Check.refused(FULL, Room::full, x -> x.bolt(0, 9999));
  }

  private static void boltBeginsWithoutFlaws() {
    Check.sentence(8, "BOLTS .. with .. FLAWS (none at first)");
    Room x = new Room();
    x.sett("a1;");
    x.bolt(0, 100);
    for (int f = 0; f < 10; f++) x.flaw(0, f);
    due(x.bolt(0, 100), 1);
    for (int f = 0; f < 10; f++) due(x.flaw(1, f), f + 1);
  }

  private static void flawWithinLength() {
    Check.sentence(9, "BAD: BOLT, THREAD (beyond its LENGTH ..)");
    Check.refused(BAD, Room::some, x -> x.flaw(1, -1));
    Check.refused(BAD, Room::some, x -> x.flaw(1, 150));
    Check.refused(BAD, Room::some, x -> x.flaw(1, 151));
    Check.refused(BAD, Room::some, x -> x.flaw(1, MIN));
    Check.refused(BAD, Room::some, x -> x.flaw(1, MAX));
    due(Room.some().flaw(1, 0), 1);
    due(Room.some().flaw(1, 149), 1);
    due(Room.some().flaw(0, 150), 3);
    due(Room.some().flaw(0, 399), 3);
    Check.refused(BAD, Room::some, x -> x.flaw(0, 400));
  }

  private static void flawLengthEnds() {
    Check.sentence(9, "LENGTH (100 .. 9999 threads, from THREAD 0 on)");
    for (int length : new int[] {100, 101, 9998, 9999}) {
      Room x = Room.of("a1;", length);
      due(x.flaw(0, length), BAD);
      due(x.flaw(0, length - 1), 1);
      due(x.flaw(0, 0), 2);
      due(x.flaw(0, -1), BAD);
    }
  }

  private static void flawOnceAtAThread() {
    Check.sentence(9, "BAD: .. one that has one");
    Check.refused(BAD, Room::some, x -> x.flaw(0, 5));
    Check.refused(BAD, Room::some, x -> x.flaw(0, 310));
    for (int at : new int[] {4, 6, 309, 311}) due(Room.some().flaw(0, at), 3);
    due(Room.some().flaw(1, 5), 1);
  }

  private static void flawsAtMost() {
    Check.sentence(9, "FLAWS (10 at most)");
    Room x = Room.of("a1;", 100);
    for (int f = 1; f <= 10; f++) due(x.flaw(0, 9 * f), f);
    due(x.flaw(0, 1), FULL);
    due(x.flaw(0, 99), FULL);
    Check.refused(FULL, Room::full, y -> y.flaw(0, 6));
    Check.refused(FULL, Room::full, y -> y.flaw(0, 0));
    Check.refused(FULL, Room::full, y -> y.flaw(0, 399));
    due(Room.full().flaw(1, 6), 1);
  }

  private static void flawBadAheadOfFull() {
    Check.sentence(9, "BAD: BOLT, THREAD ..; FULL.");
    Check.refused(BAD, Room::full, x -> x.flaw(0, 5));
    Check.refused(BAD, Room::full, x -> x.flaw(0, 313));
    Check.refused(BAD, Room::full, x -> x.flaw(0, 400));
    Check.refused(BAD, Room::full, x -> x.flaw(0, -1));
    Check.refused(FULL, Room::full, x -> x.flaw(0, 314));
  }

  private static void flawOfABolt() {
    Check.sentence(9, "BAD: BOLT");
    for (int b : new int[] {-1, 2, 3, 4, MIN, MAX}) Check.refused(BAD, Room::some, x -> x.flaw(b, 1));
    Check.refused(BAD, Room::full, x -> x.flaw(4, 1));
    Check.refused(BAD, Room::new, x -> x.flaw(0, 1));
  }

  private static void flawEachBoltItsOwn() {
    Check.sentence(9, "A FLAW: how many the BOLT has");
    Room x = Room.of("a1;", 100);
    x.bolt(0, 100);
    due(x.flaw(0, 7), 1);
    due(x.flaw(1, 7), 1);
    due(x.flaw(1, 8), 2);
    due(x.flaw(0, 8), 2);
    due(x.flaw(0, 8), BAD);
    due(x.flaw(0, 9), 3);
    due(x.flaw(1, 9), 3);
  }

  private static void flawLeavesLaid() {
    Check.sentence(9, "(KILTS that are LAID stay so.)");
    Room x = Room.withKilt("a10;", 400, 0);
    x.lay(0, 0);
    x.turn(0);
    x.let(0, -1);
    // an end of each APRON and of what PLEATS show, and one between
    int[] flaws = {4, 43, 44, 60, 104, 113, 114, 153};
    for (int f = 0; f < flaws.length; f++) due(x.flaw(0, flaws[f]), f + 1);
    int[] told = {4, 114, 154, 0, 0};
    for (int what = 0; what < 5; what++) due(x.laid(0, what), told[what]);
    due(x.kiltTold(0, 5), 0);
    due(x.kiltTold(0, 6), 9);
    due(x.kiltTold(0, 7), 1);
    due(x.count(6), 1);
    due(x.around(0, false), 36);
    due(x.shown(0, 0, false), 0);
    due(x.says(0, 0), 154 * 3 + 40);
    due(x.turn(0), 0);
  }
}
