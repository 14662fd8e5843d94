import java.util.function.Supplier;

/**
 * The bounds of promises 15 to 18: what a KILT shows, LET OUT and TURNED. On the SETT RAINBOW (PERIOD 8, THREAD x
 * has the COLOUR x modulo 8) the KILT of 26 inches has v 13, PLEATS from 58, 79, 100, 121 on, each of which loses 3.
 */
public final class BoundsOfWear {
  private static final int BAD = Check.BAD, STATE = Check.STATE, NONE = Check.NONE, MIN = Check.MIN, MAX = Check.MAX;
  private static final String RAINBOW = "a1 b1 c1 d1 e1 f1 g1 h1;";
  private static final int[] STARTS = {58, 79, 100, 121};

  public static void main(String[] args) {
    shownAtHip();
    shownAtWaist();
    shownLossesCut();
    shownBeyond();
    shownBeyondLetOut();
    shownRefuses();
    shownTurned();
    shownOfItsBolt();
    aroundTold();
    aroundRefuses();
    letByAtMost();
    letAtLeastOne();
    letAboveLosses();
    letAboveOneLoss();
    letNotAbove999();
    letToTheNext();
    letToTheNextOfOnePleat();
    letToUnderApron();
    letAroundFlaws();
    letOverFlawsOfAprons();
    letWithFlawsThatCame();
    letByItsOwnBolt();
    letSumsUp();
    letRefuses();
    letShowsMore();
    turnTold();
    turnRefuses();
    Check.end("BoundsOfWear");
  }

  private static void due(long got, long want) {
    Check.due(got, want);
  }

  private static Room tapered() {
    Room x = Room.of(RAINBOW, 999);
    x.kilt(0, 426, 420, 0);
    due(x.lay(0, 0), 186);
    for (int k = 0; k < 4; k++) due(x.pleat(0, k, 0), STARTS[k]);
    return x;
  }

  /** All that is shown is due, and nothing beyond it: of each PLEAT some threads, from one on. */
  private static void shows(Room x, boolean waist, int from, int threads, boolean turned) {
    int all = 4 * threads;
    due(x.around(0, waist), all);
    for (int i = 0; i < all; i++) {
      int at = turned ? all - 1 - i : i;
      due(x.shown(0, i, waist), (STARTS[at / threads] + from + at % threads) % 8);
    }
    for (int i : new int[] {-1, all, all + 1, MIN, MAX}) due(x.shown(0, i, waist), NONE);
  }

  // ---- promise 15

  private static void shownAtHip() {
    Check.sentence(15, "shows at the hip: v threads of each PLEAT, PLEAT 0's first");
    shows(tapered(), false, 0, 13, false);
  }

  private static void shownAtWaist() {
    Check.sentence(15, "at the waist those but the ones that it loses: half of these (cut) at its beginning, the rest at its end");
    shows(tapered(), true, 1, 10, false);
  }

  private static void shownLossesCut() {
    Check.sentence(15, "half of these (cut) at its beginning (of 0, 1, 2 threads)");
    // INCH 4, HIP 22, v 8, 5 PLEATS: they lose 0, 0, 1, 0, 1
    Room x = Room.of(RAINBOW, 999);
    x.kilt(0, 422, 521, 0);
    x.lay(0, 0);
    int seen = 0;
    for (int k = 0; k < 5; k++) {
      int lost = k == 2 || k == 4 ? 1 : 0;
      int start = x.pleat(0, k, 0);
      for (int t = 0; t < 8 - lost; t++) due(x.shown(0, seen++, true), (start + t) % 8);
    }
    due(x.shown(0, seen, true), NONE);
    due(seen, 38);
    // INCH 5, HIP 23, v 14: they lose 1, 2, 2, 2
    Room y = Room.of(RAINBOW, 999);
    y.kilt(0, 523, 420, 0);
    y.lay(0, 0);
    seen = 0;
    for (int k = 0; k < 4; k++) {
      int start = y.pleat(0, k, 0);
      int first = k == 0 ? 0 : 1;
      for (int t = first; t < 13; t++) due(y.shown(0, seen++, true), (start + t) % 8);
    }
    due(y.shown(0, seen, true), NONE);
    due(seen, 49);
  }

  private static void shownBeyond() {
    Check.sentence(15, "NONE: none such");
    for (int i : new int[] {-1, 52, 53, MIN, MAX}) Check.refused(NONE, BoundsOfWear::tapered, x -> x.shown(0, i, false));
    for (int i : new int[] {-1, 40, 41, MIN, MAX}) Check.refused(NONE, BoundsOfWear::tapered, x -> x.shown(0, i, true));
    Room x = tapered();
    due(x.shown(0, 51, false), (121 + 12) % 8);
    due(x.shown(0, 39, true), (121 + 10) % 8);
    due(x.shown(0, 40, false), (121 + 1) % 8);
    due(x.shown(0, 0, false), 58 % 8);
    due(x.shown(0, 0, true), 59 % 8);
  }

  private static void shownBeyondLetOut() {
    Check.sentence(15, "NONE: none such (of one that is LET OUT or taken in)");
    Room x = tapered();
    due(x.let(0, -4), 9);
    shows(x, false, 0, 9, false);
    shows(x, true, 1, 6, false);
    due(x.let(0, -5), 4);
    shows(x, false, 0, 4, false);
    shows(x, true, 1, 1, false);
  }

  private static void shownRefuses() {
    Check.sentence(15, "BAD: KILT; STATE.");
    for (boolean waist : new boolean[] {false, true}) {
      for (int k : new int[] {-1, 3, 8, MIN, MAX}) {
        Check.refused(BAD, Room::some, x -> x.shown(k, 0, waist));
        Check.refused(BAD, Room::some, x -> x.shown(k, -1, waist));
      }
      for (int i : new int[] {0, 5, -1, 9999}) Check.refused(STATE, Room::some, x -> x.shown(1, i, waist));
      Check.refused(STATE, Room::full, x -> x.shown(7, 0, waist));
      Check.refused(BAD, Room::full, x -> x.shown(8, 0, waist));
    }
  }

  private static void shownTurned() {
    Check.sentence(15, "TURNED end for end: .. from the last thread of the last PLEAT to the first one; again: as before");
    Room x = tapered();
    x.turn(0);
    shows(x, false, 0, 13, true);
    shows(x, true, 1, 10, true);
    x.let(0, -3);
    shows(x, false, 0, 10, true);
    Room y = tapered();
    y.turn(0);
    y.turn(0);
    shows(y, false, 0, 13, false);
    y.turn(0);
    y.lay(0, 0);
    shows(y, true, 1, 10, false);
  }

  private static void shownOfItsBolt() {
    Check.sentence(15, "COLOUR of the i-th thread that is shown (of the SETT of the BOLT on which it is LAID)");
    Room x = new Room();
    x.sett("a5;");
    x.sett(RAINBOW);
    x.sett("h3;");
    for (int b = 0; b < 3; b++) x.bolt(b, 999);
    x.kilt(0, 426, 420, 0);
    x.lay(0, 0);
    for (int i = 0; i < 52; i++) due(x.shown(0, i, false), 0);
    x.lay(0, 1);
    shows(x, false, 0, 13, false);
    x.lay(0, 2);
    for (int i = 0; i < 40; i++) due(x.shown(0, i, true), 7);
  }

  // ---- promise 16

  private static void aroundTold() {
    Check.sentence(16, "How many threads are shown at the hip, at the waist.");
    Room x = tapered();
    due(x.around(0, false), 52);
    due(x.around(0, true), 40);
    x.turn(0);
    x.let(0, -9);
    due(x.around(0, false), 16);
    due(x.around(0, true), 4);
    // v 1, and one thread folded in behind the last PLEAT
    Room y = Room.of("a9;", 999);
    y.kilt(0, 420, 2420, 0);
    y.lay(0, 0);
    due(y.around(0, false), 24);
    due(y.around(0, true), 24);
    due(y.let(0, 1), 2);
    due(y.around(0, true), 48);
    Room z = Room.of("a400;", 9999);
    z.kilt(0, 4060, 420, 0);
    z.lay(0, 0);
    due(z.around(0, false), 1200);
    due(z.around(0, true), 400);
  }

  private static void aroundRefuses() {
    Check.sentence(16, "BAD; STATE.");
    for (boolean waist : new boolean[] {false, true}) {
      for (int k : new int[] {-1, 3, 8, MIN, MAX}) Check.refused(BAD, Room::some, x -> x.around(k, waist));
      Check.refused(STATE, Room::some, x -> x.around(1, waist));
      Check.refused(STATE, Room::full, x -> x.around(7, waist));
      Check.refused(BAD, Room::full, x -> x.around(8, waist));
    }
  }

  // ---- promise 17

  /** v 300, and room for some 700 threads more. */
  private static Room wide() {
    Room x = Room.of("a400;", 9999);
    x.kilt(2, 4060, 460, 0);
    x.flaw(0, 5998);
    due(x.lay(0, 0), 7199);
    return x;
  }

  private static void letByAtMost() {
    Check.sentence(17, "LET OUT by d (-20 .. 20)");
    due(wide().let(0, 20), 320);
    due(wide().let(0, -20), 280);
    due(wide().let(0, 19), 319);
    due(wide().let(0, 0), 300);
    for (int d : new int[] {21, -21, 100, MIN, MIN + 1, MAX}) {
      Check.refused(BAD, BoundsOfWear::wide, x -> x.let(0, d));
      Check.refused(BAD, Room::some, x -> x.let(0, d));
    }
  }

  private static void letAtLeastOne() {
    Check.sentence(17, "v + d is 1 at least");
    Supplier<Room> maker = () -> {
      Room x = Room.withKilt("a10;", 400, 0);
      x.lay(0, 0);
      return x;
    };
    due(maker.get().let(0, -9), 1);
    Check.refused(STATE, maker, x -> x.let(0, -10));
    Check.refused(STATE, maker, x -> x.let(0, -20));
    Room x = maker.get();
    due(x.let(0, -9), 1);
    due(x.let(0, -1), STATE);
    due(x.let(0, 0), 1);
    due(x.around(0, true), 4);
    due(x.let(0, 9), 10);
  }

  private static void letAboveLosses() {
    Check.sentence(17, "v + d is .. above what each PLEAT loses");
    due(tapered().let(0, -9), 4);
    Check.refused(STATE, BoundsOfWear::tapered, x -> x.let(0, -10));
    Check.refused(STATE, BoundsOfWear::tapered, x -> x.let(0, -11));
    Room x = tapered();
    x.let(0, -9);
    due(x.let(0, -1), STATE);
    due(x.let(0, 0), 4);
  }

  private static void letAboveOneLoss() {
    Check.sentence(17, "above what each PLEAT loses (also if one alone loses so much)");
    // they lose 0, 0, 1, 0, 1 ; then 3, 3, 3, 3, 4
    Room x = Room.of(RAINBOW, 999);
    x.kilt(0, 422, 521, 0);
    x.lay(0, 0);
    due(x.let(0, -7), STATE);
    due(x.let(0, -6), 2);
    Room y = Room.of(RAINBOW, 999);
    y.kilt(0, 428, 520, 0);
    y.lay(0, 0);
    due(y.kiltTold(0, 1), 11);
    due(y.let(0, -7), STATE);
    due(y.let(0, -6), 5);
  }

  private static void letNotAbove999() {
    Check.sentence(17, "and not above 999");
    Room x = wide();
    for (int i = 1; i <= 34; i++) due(x.let(0, 20), 300 + 20 * i);
    due(x.let(0, 20), STATE);
    due(x.kiltTold(0, 6), 980);
    due(x.let(0, 18), 998);
    due(x.let(0, 2), STATE);
    due(x.let(0, 1), 999);
    due(x.let(0, 1), STATE);
    due(x.let(0, 0), 999);
    // there would be room
    for (int k = 0; k < 4; k++) due(x.pleat(0, k, 3) > 0 ? 1 : 0, 1);
    due(x.let(0, -20), 979);
    due(x.let(0, 20), 999);
  }

  /**
   * A STRIPED one whose last PLEAT has 4 threads more of room than a STEP of one PERIOD has: PLEATS, each at DEPTH 1,
   * from 136, 216, 296, 376 on, the under APRON from 460 on.
   */
  private static Room stepsOf80(int... flaws) {
    Room x = Room.of("a2 b50 c20 d8;", 9999);
    x.kilt(1, 420, 420, 2);
    for (int f : flaws) x.flaw(0, f);
    due(x.lay(0, 0), 500 + 80 * flaws.length);
    due(x.laid(0, 3), 0);
    due(x.laid(0, 4), 0);
    return x;
  }

  /** It can be LET OUT to 80 threads and not further. */
  private static void letTo80(Room x) {
    for (int i = 1; i <= 3; i++) due(x.let(0, 20), 10 + 20 * i);
    due(x.let(0, 9), 79);
    due(x.let(0, 2), STATE);
    due(x.let(0, 1), 80);
    due(x.let(0, 1), STATE);
    due(x.let(0, 0), 80);
  }

  private static void letToTheNext() {
    Check.sentence(17, "x(k) and v + d is at most x(k + 1)");
    Room x = stepsOf80();
    letTo80(x);
    for (int k = 0; k < 4; k++) due(x.pleat(0, k, 3), k == 3 ? 4 : 0);
    due(x.around(0, false), 320);
  }

  private static void letToTheNextOfOnePleat() {
    Check.sentence(17, "x(k) and v + d is at most x(k + 1) (also if one PLEAT alone has no more)");
    int[][] flaws = {{300, 460}, {220, 460}, {220, 380}};
    for (int alone = 0; alone < 3; alone++) {
      Room x = stepsOf80(flaws[alone]);
      for (int k = 0; k < 3; k++) due(x.pleat(0, k, 1), k == alone ? 1 : 2);
      letTo80(x);
      for (int k = 0; k < 4; k++) due(x.pleat(0, k, 3), k == alone ? 0 : k == 3 ? 4 : 80);
    }
  }

  private static void letToUnderApron() {
    Check.sentence(17, "of the last PLEAT at most u");
    Room x = Room.withKilt("a80;", 9999, 0);
    x.lay(0, 0);
    due(x.let(0, 1), STATE);
    due(x.let(0, 0), 10);
    Room y = Room.withKilt("a81;", 9999, 0);
    y.lay(0, 0);
    due(y.let(0, 2), STATE);
    due(y.let(0, 1), 11);
    due(y.pleat(0, 3, 3), 0);
    due(y.let(0, 1), STATE);
    // u is 78 threads behind what the last PLEAT shows, and the others have 79
    Room z = Room.withKilt("a79;", 9999, 0);
    z.lay(0, 0);
    for (int i = 1; i <= 3; i++) due(z.let(0, 20), 10 + 20 * i);
    due(z.let(0, 19), STATE);
    due(z.let(0, 18), 88);
    due(z.pleat(0, 3, 3), 0);
    due(z.pleat(0, 2, 3), 1);
    due(z.let(0, 1), STATE);
  }

  private static void letAroundFlaws() {
    Check.sentence(17, "and no FLAW that the BOLT has now is at a thread that is shown then");
    int[] starts = {59, 148, 237, 326};
    for (int start : starts) {
      for (int came = 0; came < 2; came++) {
        Room x = Room.withKilt("a79;", 9999, 0);
        if (came == 0) x.flaw(0, start + 15);
        due(x.lay(0, 0), 454);
        if (came == 1) x.flaw(0, start + 15);
        due(x.let(0, 6), STATE);
        due(x.let(0, 20), STATE);
        due(x.kiltTold(0, 6), 10);
        due(x.let(0, 5), 15);
        due(x.let(0, 1), STATE);
        due(x.let(0, 0), 15);
        due(x.let(0, -15), STATE);
      }
    }
    // the last thread ahead of the next PLEAT
    Room y = Room.withKilt("a79;", 9999, 0);
    y.lay(0, 0);
    y.flaw(0, 147);
    for (int i = 1; i <= 3; i++) due(y.let(0, 20), 10 + 20 * i);
    due(y.let(0, 18), 88);
  }

  private static void letOverFlawsOfAprons() {
    Check.sentence(17, "at a thread that is shown then (APRONS aren't shown)");
    Room x = Room.withKilt("a79;", 9999, 0);
    due(x.lay(0, 0), 454);
    for (int flaw : new int[] {0, 18, 19, 58, 414, 453, 454}) x.flaw(0, flaw);
    due(x.let(0, 20), 30);
    due(x.let(0, 20), 50);
    due(x.let(0, 20), 70);
    due(x.let(0, 18), 88);
    due(x.let(0, -20), 68);
  }

  private static void letWithFlawsThatCame() {
    Check.sentence(17, "no FLAW that the BOLT has now (one that came where a PLEAT shows)");
    Supplier<Room> maker = () -> {
      Room x = Room.withKilt("a79;", 9999, 0);
      x.lay(0, 0);
      x.flaw(0, 237 + 6);
      return x;
    };
    Check.refused(STATE, maker, x -> x.let(0, 0));
    Check.refused(STATE, maker, x -> x.let(0, 3));
    Check.refused(STATE, maker, x -> x.let(0, -3));
    due(maker.get().let(0, -4), 6);
    Room x = maker.get();
    due(x.let(0, -9), 1);
    due(x.let(0, 6), STATE);
    due(x.let(0, 5), 6);
    // at its first thread: nothing can be
    x.flaw(0, 59);
    for (int d = -20; d <= 20; d++) due(x.let(0, d), STATE);
    due(x.kiltTold(0, 6), 6);
  }

  private static void letByItsOwnBolt() {
    Check.sentence(17, "no FLAW that the BOLT has now (that of its own BOLT)");
    Room x = Room.withKilt("a79;", 9999, 0);
    x.bolt(0, 9999);
    x.lay(0, 1);
    for (int f = 0; f < 10; f++) x.flaw(0, 60 + 11 * f);
    due(x.let(0, 5), 15);
    x.flaw(1, 60);
    due(x.let(0, 0), STATE);
  }

  private static void letSumsUp() {
    Check.sentence(17, "WIDTH NOW: v and all by which it was LET OUT since it was LAID");
    Room x = Room.withKilt("a79;", 9999, 0);
    x.lay(0, 0);
    int[] by = {20, -5, 0, 20, 3, -20, 20};
    int wide = 10;
    for (int d : by) {
      wide += d;
      due(x.let(0, d), wide);
      due(x.kiltTold(0, 6), wide);
      due(x.kiltTold(0, 1), 10);
      due(x.around(0, false), 4 * wide);
    }
    x.lay(0, 0);
    due(x.kiltTold(0, 6), 10);
    due(x.let(0, 1), 11);
  }

  private static void letRefuses() {
    Check.sentence(17, "BAD; STATE: it isn't LAID, or can't be.");
    for (int k : new int[] {-1, 3, 8, MIN, MAX}) Check.refused(BAD, Room::some, x -> x.let(k, 0));
    for (int d : new int[] {-20, -1, 0, 1, 20}) Check.refused(STATE, Room::some, x -> x.let(1, d));
    for (int d : new int[] {-21, 21}) Check.refused(BAD, Room::some, x -> x.let(1, d));
    Check.refused(STATE, Room::some, x -> x.let(0, 20));
    Check.refused(STATE, Room::full, x -> x.let(7, 0));
    Check.refused(BAD, Room::full, x -> x.let(8, 0));
  }

  private static void letShowsMore() {
    Check.sentence(17, "all PLEATS show d threads more (at their ends)");
    Room x = Room.of(RAINBOW, 999);
    x.kilt(0, 423, 420, 0);
    due(x.lay(0, 0), 168);
    due(x.let(0, 4), 15);
    int[] starts = {48, 67, 86, 105};
    for (int k = 0; k < 4; k++) {
      for (int t = 0; t < 15; t++) due(x.shown(0, 15 * k + t, false), (starts[k] + t) % 8);
    }
    // they lose 1, 2, 1, 2
    int seen = 0;
    for (int k = 0; k < 4; k++) {
      for (int t = k % 2; t < 14; t++) due(x.shown(0, seen++, true), (starts[k] + t) % 8);
    }
    due(x.shown(0, seen, true), NONE);
    due(seen, 54);
  }

  // ---- promise 18

  private static void turnTold() {
    Check.sentence(18, "TURNED end for end: whether it is then (1, 0).");
    Room x = tapered();
    for (int i = 0; i < 6; i++) {
      due(x.turn(0), i % 2 == 0 ? 1 : 0);
      due(x.kiltTold(0, 7), i % 2 == 0 ? 1 : 0);
    }
    x.turn(0);
    x.lay(0, 0);
    due(x.turn(0), 1);
    due(x.laid(0, 2), 186);
    for (int k = 0; k < 4; k++) due(x.pleat(0, k, 0), STARTS[k]);
    due(x.kiltTold(0, 6), 13);
  }

  private static void turnRefuses() {
    Check.sentence(18, "BAD; STATE.");
    for (int k : new int[] {-1, 3, 8, MIN, MAX}) Check.refused(BAD, Room::some, x -> x.turn(k));
    Check.refused(STATE, Room::some, x -> x.turn(1));
    Check.refused(STATE, Room::full, x -> x.turn(7));
    Check.refused(BAD, Room::full, x -> x.turn(8));
    Room x = Room.withKilt("a10;", 153, 0);
    x.lay(0, 0);
    due(x.turn(0), STATE);
    due(x.kiltTold(0, 7), 0);
  }
}
