/** The bounds of promises 10 and 11: KILTS, what can be sewn and what is told of them. */
public final class BoundsOfKilts {
  private static final int BAD = Check.BAD, FULL = Check.FULL, NONE = Check.NONE, MIN = Check.MIN, MAX = Check.MAX;

  public static void main(String[] args) {
    kiltStyles();
    kiltInches();
    kiltHips();
    kiltPleats();
    kiltWaists();
    kiltWaistAtMostHip();
    kiltStripes();
    kiltTaper();
    kiltTaperOfWidthOne();
    kiltFarNumbers();
    kiltsAtMost();
    kiltBadAheadOfFull();
    kiltWithoutSetts();
    toldWidthAndApron();
    toldWidthAtLeast();
    toldTaperCut();
    toldEach();
    toldWhileNotLaid();
    toldOnceLaid();
    toldRefuses();
    Check.end("BoundsOfKilts");
  }

  private static void due(long got, long want) {
    Check.due(got, want);
  }

  private static void sewn(int style, int inches, int pleats, int stripe) {
    due(Room.some().kilt(style, inches, pleats, stripe), 3);
    due(new Room().kilt(style, inches, pleats, stripe), 0);
  }

  private static void bad(int style, int inches, int pleats, int stripe) {
    Check.refused(BAD, Room::some, x -> x.kilt(style, inches, pleats, stripe));
  }

  private static void kiltStyles() {
    Check.sentence(10, "a STYLE: 0 PLAIN, .. 5 BAND");
    for (int style = 0; style <= 5; style++) sewn(style, 840, 835, 0);
    for (int style : new int[] {-1, 6, MIN, MAX}) bad(style, 840, 835, 0);
  }

  private static void kiltInches() {
    Check.sentence(10, "INCH (4 .. 40 threads)");
    sewn(0, 430, 430, 0);
    sewn(0, 4030, 430, 0);
    bad(0, 330, 430, 0);
    bad(0, 4130, 430, 0);
    bad(0, 30, 430, 0);
    bad(0, 9930, 430, 0);
  }

  private static void kiltHips() {
    Check.sentence(10, "HIP .. (20 .. 60 inches ..)");
    sewn(0, 420, 420, 0);
    sewn(0, 460, 460, 0);
    bad(0, 419, 420, 0);
    bad(0, 419, 419, 0);
    bad(0, 461, 460, 0);
    bad(0, 461, 461, 0);
    bad(0, 400, 400, 0);
    bad(0, 499, 420, 0);
  }

  private static void kiltPleats() {
    Check.sentence(10, "n PLEATS (4 .. 24)");
    sewn(0, 830, 430, 0);
    sewn(0, 830, 2430, 0);
    bad(0, 830, 330, 0);
    bad(0, 830, 2530, 0);
    bad(0, 830, 30, 0);
    bad(0, 830, 9930, 0);
  }

  private static void kiltWaists() {
    Check.sentence(10, "WAIST (20 .. 60 inches ..)");
    sewn(0, 822, 420, 0);
    bad(0, 822, 419, 0);
    bad(0, 822, 400, 0);
    sewn(0, 860, 460, 0);
    bad(0, 860, 461, 0);
    bad(0, 860, 499, 0);
    bad(0, 420, 419, 0);
  }

  private static void kiltWaistAtMostHip() {
    Check.sentence(10, "WAIST at most HIP");
    sewn(0, 830, 430, 0);
    sewn(0, 830, 429, 0);
    bad(0, 830, 431, 0);
    bad(0, 820, 421, 0);
    bad(0, 820, 460, 0);
    bad(0, 859, 460, 0);
  }

  private static void kiltStripes() {
    Check.sentence(10, "BAD: .. STRIPE (below 0, above 9)");
    for (int style = 0; style <= 5; style++) {
      sewn(style, 420, 420, 0);
      sewn(style, 420, 420, 9);
      bad(style, 420, 420, -1);
      bad(style, 420, 420, 10);
    }
    bad(1, 420, 420, MIN);
    bad(1, 420, 420, MAX);
  }

  private static void kiltTaper() {
    Check.sentence(10, "TAPER: (HIP less WAIST) times INCH by 2, which must be below n (v - 1) and 1 more");
    // v 2, TAPER 24 : 24 by 24 PLEATS, 23 by 23
    sewn(0, 432, 2420, 0);
    bad(0, 432, 2320, 0);
    sewn(0, 433, 2421, 0);
    bad(0, 433, 2321, 0);
    // v 3, TAPER 46 by 23 PLEATS; v 4, TAPER 70 and 72 by 24, 70 by 23
    sewn(0, 443, 2320, 0);
    sewn(0, 456, 2420, 0);
    bad(0, 455, 2320, 0);
    // v 2, TAPER 26 by 24
    bad(0, 435, 2422, 0);
    sewn(0, 435, 2423, 0);
  }

  private static void kiltTaperOfWidthOne() {
    Check.sentence(10, "TAPER .. must be below n (v - 1) and 1 more (of v 1: there is none)");
    sewn(0, 420, 2420, 0);
    sewn(0, 423, 2423, 0);
    bad(0, 421, 2420, 0);
    bad(0, 423, 2422, 0);
    sewn(0, 424, 2424, 0);
    sewn(0, 424, 2423, 0);
  }

  private static void kiltFarNumbers() {
    Check.sentence(10, "inches 100 * INCH + HIP, pleats 100 * n + WAIST (numbers below 0 and far ones)");
    for (int far : new int[] {-420, -1, 0, 20, -380, MIN, MAX, 420 + 10000, 42020}) {
      bad(0, far, 420, 0);
      bad(0, 420, far, 0);
    }
    // 100 * 5 - 80 is 420: INCH 4
    Room x = new Room();
    x.kilt(0, 5 * 100 - 80, 420, 0);
    due(x.kiltTold(0, 8), 4);
  }

  private static void kiltsAtMost() {
    Check.sentence(10, "KILTS (8 at most, numbered from 0)");
    Room x = new Room();
    for (int k = 0; k < 8; k++) {
      due(x.kilt(0, 420 + k, 420, 0), k);
      due(x.count(2), k + 1);
    }
    due(x.kilt(0, 420, 420, 0), FULL);
    for (int k = 0; k < 8; k++) due(x.kiltTold(k, 9), 20 + k);
    due(x.kiltTold(8, 9), BAD);
    Check.refused(FULL, Room::full, y -> y.kilt(0, 420, 420, 0));
    Check.refused(FULL, Room::full, y -> y.kilt(5, 4060, 2460, 9));
  }

  private static void kiltBadAheadOfFull() {
    Check.sentence(10, "BAD: STYLE, INCH, HIP, n, WAIST, STRIPE .., TAPER; FULL.");
    int[][] wrong = {{6, 420, 420, 0}, {-1, 420, 420, 0}, {0, 320, 420, 0}, {0, 419, 420, 0}, {0, 420, 320, 0}, {0, 420, 419, 0},
        {0, 420, 421, 0}, {0, 420, 420, 10}, {0, 420, 420, -1}, {0, 432, 2320, 0}};
    for (int[] w : wrong) Check.refused(BAD, Room::full, x -> x.kilt(w[0], w[1], w[2], w[3]));
  }

  private static void kiltWithoutSetts() {
    Check.sentence(10, "A KILT .. its number (no SETT is asked for, and none must have its STRIPE)");
    Room x = new Room();
    due(x.kilt(1, 420, 420, 9), 0);
    due(x.sett("a10;"), 0);
    due(x.kilt(5, 420, 420, 9), 1);
  }

  // ---- promise 11

  private static void told(int inches, int pleats, int v, int apron, int taper) {
    Room x = new Room();
    due(x.kilt(0, inches, pleats, 0), 0);
    due(x.kiltTold(0, 1), v);
    due(x.kiltTold(0, 2), apron);
    due(x.kiltTold(0, 3), taper);
    due(x.kiltTold(0, 8), inches / 100);
    due(x.kiltTold(0, 9), inches % 100);
    due(x.kiltTold(0, 4), pleats / 100);
    due(x.kiltTold(0, 10), pleats % 100);
  }

  private static void toldWidthAndApron() {
    Check.sentence(11, "WIDTH v: HIP times INCH by 2 n ..; APRON: HIP times INCH less n v (quotients are cut)");
    told(420, 420, 10, 40, 0);
    told(421, 421, 10, 44, 0);
    told(423, 423, 11, 48, 0);
    told(524, 424, 15, 60, 0);
    told(525, 425, 15, 65, 0);
    told(4060, 460, 300, 1200, 0);
    told(4060, 2460, 50, 1200, 0);
    told(2359, 2459, 28, 685, 0);
  }

  private static void toldWidthAtLeast() {
    Check.sentence(11, "WIDTH v: .. 1 at least");
    told(420, 2420, 1, 56, 0);
    told(423, 2423, 1, 68, 0);
    told(424, 2424, 2, 48, 0);
  }

  private static void toldTaperCut() {
    Check.sentence(11, "TAPER: (HIP less WAIST) times INCH by 2 (cut)");
    told(521, 420, 13, 53, 2);
    told(521, 421, 13, 53, 0);
    told(523, 420, 14, 59, 7);
    told(422, 421, 11, 44, 2);
    told(4060, 420, 300, 1200, 800);
    told(432, 2420, 2, 80, 24);
  }

  private static void toldEach() {
    Check.sentence(11, "Of a KILT: 0 STYLE, .. 10 WAIST.");
    for (int style = 0; style <= 5; style++) {
      Room x = new Room();
      x.kilt(style, 525, 622, 3);
      // v 125 by 12, APRON 125 less 60, TAPER 15 by 2
      int[] told = {style, 10, 65, 7, 6, NONE, NONE, 0, 5, 25, 22};
      for (int what = 0; what <= 10; what++) due(x.kiltTold(0, what), told[what]);
    }
  }

  private static void toldWhileNotLaid() {
    Check.sentence(11, "5 BOLT (NONE: it isn't LAID), 6 WIDTH NOW (NONE likewise)");
    Room x = Room.withKilt("a10;", 153, 0);
    for (int again = 0; again < 2; again++) {
      due(x.kiltTold(0, 5), NONE);
      due(x.kiltTold(0, 6), NONE);
      due(x.kiltTold(0, 7), 0);
      due(x.lay(0, 0), NONE);
      due(x.let(0, 1), Check.STATE);
      due(x.turn(0), Check.STATE);
    }
  }

  private static void toldOnceLaid() {
    Check.sentence(11, "5 BOLT .., 6 WIDTH NOW .., 7 whether it is TURNED");
    Room x = Room.withKilt("a10;", 400, 0);
    for (int b = 1; b < 4; b++) x.bolt(0, 400);
    for (int b = 3; b >= 0; b--) {
      x.lay(0, b);
      due(x.kiltTold(0, 5), b);
      due(x.kiltTold(0, 6), 10);
      due(x.kiltTold(0, 7), 0);
      x.let(0, -3);
      x.let(0, 1);
      x.turn(0);
      due(x.kiltTold(0, 6), 8);
      due(x.kiltTold(0, 7), 1);
      due(x.kiltTold(0, 1), 10);
      due(x.kiltTold(0, 2), 40);
    }
  }

  private static void toldRefuses() {
    Check.sentence(11, "BAD. (no such KILT, thing of it)");
    for (int k : new int[] {-1, 3, 7, 8, MIN, MAX}) Check.refused(BAD, Room::some, x -> x.kiltTold(k, 0));
    for (int what : new int[] {-1, 11, MIN, MAX}) Check.refused(BAD, Room::some, x -> x.kiltTold(1, what));
    Check.refused(BAD, Room::full, x -> x.kiltTold(8, 0));
    due(Room.some().kiltTold(2, 0), 5);
    due(Room.some().kiltTold(2, 10), 20);
    due(Room.full().kiltTold(7, 9), 27);
  }
}
