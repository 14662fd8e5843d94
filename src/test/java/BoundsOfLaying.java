import java.util.function.Supplier;

/**
 * The bounds of promises 12 to 14: THE LAYING and what is told of it. Most KILTS here have v 10, APRON 40 and
 * 4 PLEATS; on the SETT a80; (PERIOD 80, CENTRE 39) a PLAIN one without FLAWS lies so: APRON 19 .. 58, PLEATS
 * from 59, 149, 239, 329 on, APRON 339 .. 378, and each further PERIOD moves what is behind it by 80.
 */
public final class BoundsOfLaying {
  private static final int BAD = Check.BAD, STATE = Check.STATE, NONE = Check.NONE, MIN = Check.MIN, MAX = Check.MAX;
  private static final String WIDE = "a80;";
  private static final int[] ONES = {1, 1, 1};

  public static void main(String[] args) {
    usedAtMostLength();
    usedAtMostLengthByFlaws();
    overApronLeast();
    overApronHalfCut();
    overApronByStripe0();
    underApronNotBelow();
    plainFollowsApron();
    stripedNotLess();
    stripedHalfCut();
    stripedByItsStripe();
    flawsOutside();
    flawsOnOverApron();
    flawsOnFirstPleat();
    flawsOnOtherPleats();
    flawsOnUnderApron();
    flawsOnNarrowPleat();
    moreOverAtMost();
    moreUnderAtMost();
    depthAtMost();
    depthAtMostOfLastPleats();
    depthAtMostByStyle();
    stepAboveWidth();
    stepAboveWidthByRegiment();
    stepAboveWidthByBand();
    stepsByStyle();
    bandToTheLast();
    leastUsedAheadOfJ();
    likeOnesLeastJ();
    likeOnesLeastDepths();
    likeOnesLeastI();
    mostPleats();
    allAtMost();
    layRefuses();
    layAsksForStripe();
    layNoneChangesNothing();
    layAnew();
    layAnewAroundFlaws();
    laidTold();
    laidRefuses();
    pleatTold();
    pleatLosses();
    pleatFolded();
    pleatRefuses();
    pleatStates();
    Check.end("BoundsOfLaying");
  }

  private static void due(long got, long want) {
    Check.due(got, want);
  }

  /** A KILT of a STYLE on a BOLT of 9999 threads with FLAWS. */
  private static Room marred(String sett, int style, int... flaws) {
    Room x = Room.withKilt(sett, 9999, style);
    for (int f : flaws) x.flaw(0, f);
    return x;
  }

  private static void lies(Room x, int used, int j, int[] depths, int i) {
    due(x.lay(0, 0), used);
    due(x.laid(0, 2), used);
    due(x.laid(0, 3), j);
    for (int k = 0; k < depths.length; k++) due(x.pleat(0, k, 1), depths[k]);
    due(x.pleat(0, depths.length, 1), NONE);
    due(x.laid(0, 4), i);
  }

  private static void starts(Room x, int over, int[] pleats, int under) {
    due(x.laid(0, 0), over);
    for (int k = 0; k < pleats.length; k++) due(x.pleat(0, k, 0), pleats[k]);
    due(x.laid(0, 1), under);
  }

  // ---- promise 12

  private static void usedAtMostLength() {
    Check.sentence(12, "USED: u and APRON; at most the BOLT's LENGTH");
    lies(Room.withKilt(WIDE, 379, 0), 379, 0, ONES, 0);
    due(Room.withKilt(WIDE, 378, 0).lay(0, 0), NONE);
    lies(Room.withKilt(WIDE, 380, 0), 379, 0, ONES, 0);
    lies(Room.withKilt("a10;", 154, 0), 154, 0, ONES, 0);
    due(Room.withKilt("a10;", 153, 0).lay(0, 0), NONE);
    due(Room.withKilt("a10;", 100, 0).lay(0, 0), NONE);
    // 9999 threads, and one more
    Room x = Room.of("a400;", 9999);
    x.kilt(0, 4060, 1660, 0);
    due(x.lay(0, 0), 9999);
    Room y = Room.of("a400;", 9998);
    y.kilt(0, 4060, 1660, 0);
    due(y.lay(0, 0), NONE);
    Room z = Room.of("a388;", 9999);
    z.kilt(0, 3655, 1855, 0);
    due(z.lay(0, 0), NONE);
  }

  private static void usedAtMostLengthByFlaws() {
    Check.sentence(12, "USED .. at most the BOLT's LENGTH (of one that goes around a FLAW)");
    for (int flaw : new int[] {30, 60, 150, 240, 330, 350}) {
      for (int length : new int[] {458, 459}) {
        Room x = Room.withKilt(WIDE, length, 0);
        x.flaw(0, flaw);
        due(x.lay(0, 0), length == 459 ? 459 : NONE);
      }
    }
  }

  private static void overApronLeast() {
    Check.sentence(12, "the over APRON begins at THREAD a: the least one for which a and APRON by 2 is at CENTRE of STRIPE 0");
    int[][] told = {{41, 0}, {42, 0}, {43, 1}, {40, 39}, {39, 38}, {1, 0}, {2, 0}, {20, 9}, {400, 179}};
    for (int[] t : told) {
      Room x = Room.withKilt("a" + t[0] + ";", 9999, 0);
      x.lay(0, 0);
      due(x.laid(0, 0), t[1]);
    }
  }

  private static void overApronHalfCut() {
    Check.sentence(12, "a and APRON by 2 (cut, also ahead of u)");
    // v 15, APRON 65
    Room x = Room.of("a100;", 9999);
    x.kilt(0, 525, 425, 0);
    due(x.lay(0, 0), 17 + 65 + 3 * 115 + 15 + 75 + 65);
    starts(x, 17, new int[] {82, 197, 312, 427}, 517);
  }

  private static void overApronByStripe0() {
    Check.sentence(12, "is at CENTRE of STRIPE 0 (modulo P) (whatever the KILT's STRIPE is)");
    for (int style = 0; style < 6; style++) {
      Room x = Room.of("a31 b40 c9;", 9999);
      x.kilt(style, 420, 420, 2);
      x.lay(0, 0);
      due(x.laid(0, 0), 75);
      due((x.laid(0, 1) + 20) % 80, 15);
    }
  }

  private static void underApronNotBelow() {
    Check.sentence(12, "u: the least THREAD that is not below x(n - 1) + v");
    // exactly there; one thread behind; a PERIOD but one thread behind
    Room x = Room.withKilt("a80;", 9999, 0);
    lies(x, 379, 0, ONES, 0);
    starts(x, 19, new int[] {59, 149, 239, 329}, 339);
    Room y = Room.withKilt("a81;", 9999, 0);
    lies(y, 384, 0, ONES, 0);
    starts(y, 20, new int[] {60, 151, 242, 333}, 344);
    Room z = Room.withKilt("a79;", 9999, 0);
    lies(z, 454, 0, ONES, 0);
    starts(z, 19, new int[] {59, 148, 237, 326}, 414);
  }

  private static void plainFollowsApron() {
    Check.sentence(12, "PLEAT 0 shows THREADS from x(0) on: a and APRON");
    for (int style : new int[] {0, 2, 4}) {
      Room x = Room.withKilt(WIDE, 9999, style);
      x.lay(0, 0);
      due(x.pleat(0, 0, 0), 59);
    }
  }

  private static void stripedNotLess() {
    Check.sentence(12, "of STRIPED ones and those under them: the least THREAD that is not less than that for which it and v by 2 is at the CENTRE");
    // exactly there; one PERIOD but one thread behind; two threads behind
    int[][] told = {{25, 57}, {24, 78}, {26, 59}};
    for (int style : new int[] {1, 3, 5}) {
      for (int[] t : told) {
        Room x = Room.withKilt("a" + t[0] + ";", 9999, style);
        x.lay(0, 0);
        due(x.pleat(0, 0, 0), t[1]);
      }
    }
  }

  private static void stripedHalfCut() {
    Check.sentence(12, "it and v by 2 (cut)");
    // v 15, APRON 65, a 2
    for (int style : new int[] {1, 3, 5}) {
      Room x = Room.of("a10;", 9999);
      x.kilt(style, 525, 425, 0);
      x.lay(0, 0);
      due(x.laid(0, 0), 2);
      due(x.pleat(0, 0, 0), 67);
    }
  }

  private static void stripedByItsStripe() {
    Check.sentence(12, "is at the CENTRE of the KILT's STRIPE (modulo P)");
    // CENTRES 9, 29, 45, 65; a 69, and 109 behind the APRON
    int[] first = {164, 184, 120, 140};
    for (int style : new int[] {1, 3, 5}) {
      for (int s = 0; s < 4; s++) {
        Room x = Room.of("a20 b20 c12 d28;", 9999);
        x.kilt(style, 420, 420, s);
        x.lay(0, 0);
        due(x.laid(0, 0), 69);
        due(x.pleat(0, 0, 0), first[s]);
      }
    }
  }

  private static void flawsOutside() {
    Check.sentence(12, "No FLAW may be at a THREAD of an APRON .. or of what a PLEAT shows (elsewhere it may)");
    for (int flaw : new int[] {0, 18, 69, 148, 159, 238, 249, 328, 379, 9998}) lies(marred(WIDE, 0, flaw), 379, 0, ONES, 0);
    lies(marred(WIDE, 0, 0, 18, 69, 148, 159, 238, 249, 328, 379, 9998), 379, 0, ONES, 0);
  }

  private static void flawsOnOverApron() {
    Check.sentence(12, "No FLAW may be at a THREAD of an APRON (APRON threads from a .. on)");
    for (int flaw : new int[] {19, 20, 57, 58}) {
      Room x = marred(WIDE, 0, flaw);
      lies(x, 459, 1, ONES, 0);
      starts(x, 99, new int[] {139, 229, 319, 409}, 419);
    }
  }

  private static void flawsOnFirstPleat() {
    Check.sentence(12, "or of what a PLEAT shows (v threads from x(k) on) (of PLEAT 0)");
    for (int flaw : new int[] {59, 60, 67, 68}) lies(marred(WIDE, 0, flaw), 459, 1, ONES, 0);
  }

  private static void flawsOnOtherPleats() {
    Check.sentence(12, "or of what a PLEAT shows (v threads from x(k) on) (of PLEATS 1 to the last)");
    for (int flaw : new int[] {149, 150, 157, 158}) lies(marred(WIDE, 0, flaw), 459, 0, new int[] {2, 1, 1}, 0);
    for (int flaw : new int[] {239, 240, 247, 248}) lies(marred(WIDE, 0, flaw), 459, 0, new int[] {1, 2, 1}, 0);
    for (int flaw : new int[] {329, 330, 337, 338}) lies(marred(WIDE, 0, flaw), 459, 0, new int[] {1, 1, 2}, 0);
  }

  private static void flawsOnUnderApron() {
    Check.sentence(12, "No FLAW may be at a THREAD of an APRON (APRON threads from .. u on)");
    for (int flaw : new int[] {339, 340, 377, 378}) {
      Room x = marred(WIDE, 0, flaw);
      lies(x, 459, 0, ONES, 1);
      starts(x, 19, new int[] {59, 149, 239, 329}, 419);
    }
  }

  private static void flawsOnNarrowPleat() {
    Check.sentence(12, "v threads from x(k) on (of v 1: one)");
    // v 1, APRON 56; a 11, PLEATS from 67 on by 81
    for (int flaw : new int[] {66, 67, 68, 147, 148, 149}) {
      Room x = Room.of(WIDE, 9999);
      x.kilt(0, 420, 2420, 0);
      x.flaw(0, flaw);
      x.lay(0, 0);
      due(x.laid(0, 3), flaw == 66 || flaw == 67 ? 1 : 0);
      due(x.pleat(0, 0, 1), flaw == 148 ? 2 : 1);
    }
  }

  private static void moreOverAtMost() {
    Check.sentence(12, "and j P more (j 0 .. 3)");
    lies(marred(WIDE, 0, 58), 459, 1, ONES, 0);
    lies(marred(WIDE, 0, 58, 99), 539, 2, ONES, 0);
    Room x = marred(WIDE, 0, 58, 99, 179);
    lies(x, 619, 3, ONES, 0);
    starts(x, 259, new int[] {299, 389, 479, 569}, 579);
    due(marred(WIDE, 0, 58, 99, 179, 259).lay(0, 0), NONE);
    due(marred(WIDE, 0, 58, 138, 218, 298).lay(0, 0), NONE);
  }

  private static void moreUnderAtMost() {
    Check.sentence(12, "and i P more (i 0 .. 3)");
    lies(marred(WIDE, 0, 378), 459, 0, ONES, 1);
    lies(marred(WIDE, 0, 378, 458), 539, 0, ONES, 2);
    Room x = marred(WIDE, 0, 378, 458, 538);
    lies(x, 619, 0, ONES, 3);
    starts(x, 19, new int[] {59, 149, 239, 329}, 579);
    lies(marred(WIDE, 0, 378, 458, 538, 618), 699, 0, new int[] {1, 1, 2}, 3);
  }

  private static void depthAtMost() {
    Check.sentence(12, "by a DEPTH m (1 .. 4) (behind PLEAT 0)");
    lies(marred(WIDE, 0, 149), 459, 0, new int[] {2, 1, 1}, 0);
    lies(marred(WIDE, 0, 149, 229), 539, 0, new int[] {3, 1, 1}, 0);
    Room x = marred(WIDE, 0, 149, 229, 309);
    lies(x, 619, 0, new int[] {4, 1, 1}, 0);
    starts(x, 19, new int[] {59, 389, 479, 569}, 579);
    lies(marred(WIDE, 0, 149, 229, 309, 389), 699, 1, new int[] {4, 1, 1}, 0);
  }

  private static void depthAtMostOfLastPleats() {
    Check.sentence(12, "by a DEPTH m (1 .. 4) (behind PLEATS 1 and 2)");
    lies(marred(WIDE, 0, 239, 319, 399), 619, 0, new int[] {1, 4, 1}, 0);
    lies(marred(WIDE, 0, 239, 319, 399, 479), 699, 0, new int[] {2, 4, 1}, 0);
    lies(marred(WIDE, 0, 329, 409, 489), 619, 0, new int[] {1, 1, 4}, 0);
    lies(marred(WIDE, 0, 329, 409, 489, 569), 699, 0, new int[] {1, 2, 4}, 0);
  }

  /** FLAWS keep j at 0, and then push PLEAT 1 as far as it goes. */
  private static void pushed(int style, int depth, int used, int... behind) {
    Room x = marred(WIDE, style, 138, 218, 298);
    for (int b = 0; b < behind.length - 1; b++) x.flaw(0, behind[b]);
    due(x.lay(0, 0), used);
    due(x.laid(0, 3), 0);
    due(x.pleat(0, 0, 1), depth);
    due(x.pleat(0, 1, 0), behind[behind.length - 1]);
    x.flaw(0, behind[behind.length - 1]);
    due(x.lay(0, 0), NONE);
  }

  private static void depthAtMostByStyle() {
    Check.sentence(12, "by a DEPTH m (1 .. 4) (in each STYLE)");
    pushed(0, 4, 619, 149, 229, 309, 389);
    pushed(1, 4, 699, 194, 274, 354, 434);
    pushed(2, 4, 859, 229, 309, 389, 469);
    pushed(3, 3, 859, 274, 434);
    pushed(4, 4, 1339, 309, 469, 629, 789);
    pushed(5, 3, 779, 274, 434);
  }

  private static void stepAboveWidth() {
    Check.sentence(12, "(A STEP that isn't above v can't be.) (STRIPED: m P)");
    // v 10 : the least m for which m P is above it
    int[][] told = {{11, 1}, {10, 2}, {9, 2}, {6, 2}, {5, 3}, {4, 3}, {3, 4}};
    for (int[] t : told) {
      Room x = Room.withKilt("a" + t[0] + ";", 9999, 1);
      x.lay(0, 0);
      for (int k = 0; k < 3; k++) {
        due(x.pleat(0, k, 1), t[1]);
        due(x.pleat(0, k + 1, 0) - x.pleat(0, k, 0), t[0] * t[1]);
      }
    }
    due(Room.withKilt("a2;", 9999, 1).lay(0, 0), NONE);
    due(Room.withKilt("a1;", 9999, 1).lay(0, 0), NONE);
    for (int style : new int[] {0, 2, 4}) due(Room.withKilt("a1;", 9999, style).lay(0, 0) > 0 ? 1 : 0, 1);
  }

  private static void stepAboveWidthByRegiment() {
    Check.sentence(12, "(A STEP that isn't above v can't be.) (REGIMENT: STRIPED's, and P more if m is odd)");
    int[][] told = {{11, 1, 22}, {6, 1, 12}, {5, 3, 20}, {3, 3, 12}};
    for (int[] t : told) {
      Room x = Room.withKilt("a" + t[0] + ";", 9999, 3);
      x.lay(0, 0);
      for (int k = 0; k < 3; k++) {
        due(x.pleat(0, k, 1), t[1]);
        due(x.pleat(0, k + 1, 0) - x.pleat(0, k, 0), t[2]);
      }
    }
    due(Room.withKilt("a2;", 9999, 3).lay(0, 0), NONE);
  }

  private static void stepAboveWidthByBand() {
    Check.sentence(12, "(A STEP that isn't above v can't be.) (BAND: as REGIMENT, but to the last PLEAT as PLAIN)");
    int[][] told = {{6, 1, 12}, {5, 3, 20}, {3, 3, 12}};
    for (int[] t : told) {
      Room x = Room.withKilt("a" + t[0] + ";", 9999, 5);
      x.lay(0, 0);
      for (int k = 0; k < 3; k++) {
        due(x.pleat(0, k, 1), k == 2 ? 1 : t[1]);
        due(x.pleat(0, k + 1, 0) - x.pleat(0, k, 0), k == 2 ? 10 + t[0] : t[2]);
      }
    }
    due(Room.withKilt("a2;", 9999, 5).lay(0, 0), NONE);
  }

  private static void stepsByStyle() {
    Check.sentence(12, "STEP from PLEAT k to the next one");
    int[][] pleats = {{59, 149, 239, 329}, {114, 194, 274, 354}, {59, 229, 399, 569}, {114, 274, 434, 594},
        {59, 309, 559, 809}, {114, 274, 434, 524}};
    int[] unders = {339, 419, 579, 659, 819, 579};
    for (int style = 0; style < 6; style++) {
      Room x = Room.withKilt(WIDE, 9999, style);
      lies(x, unders[style] + 40, 0, ONES, 0);
      starts(x, 19, pleats[style], unders[style]);
    }
  }

  private static void bandToTheLast() {
    Check.sentence(12, "BAND: as REGIMENT, but to the last PLEAT as PLAIN (with DEPTHS of 4 and of 5 PLEATS)");
    // x(2) 434; x(3) at 524, 604, 684, 764
    Room x = marred(WIDE, 5, 524, 604, 684);
    lies(x, 859, 0, new int[] {1, 1, 4}, 0);
    due(x.pleat(0, 3, 0), 764);
    Room y = Room.of(WIDE, 9999);
    y.kilt(5, 525, 525, 0);
    y.lay(0, 0);
    // v 12 : REGIMENT's steps are 160, PLAIN's is 92
    for (int k = 0; k < 4; k++) due(y.pleat(0, k + 1, 0) - y.pleat(0, k, 0), k == 3 ? 92 : 160);
  }

  private static void leastUsedAheadOfJ() {
    Check.sentence(12, "the one with the least USED (though its j, a DEPTH or i is greater)");
    // DOUBLE: a DEPTH more is two PERIODS, j or i more is one
    lies(marred(WIDE, 4, 309), 939, 1, ONES, 0);
    lies(marred(WIDE, 4, 559), 939, 1, ONES, 0);
    lies(marred(WIDE, 4, 819), 939, 0, ONES, 1);
    // REGIMENT: DEPTH 3 is two PERIODS more than DEPTH 1
    lies(marred(WIDE, 3, 274), 779, 1, ONES, 0);
    // j can't be 1 .. 3 then
    lies(marred(WIDE, 4, 138, 218, 298, 309), 1019, 0, new int[] {2, 1, 1}, 0);
  }

  private static void likeOnesLeastJ() {
    Check.sentence(12, "of like ones the least j");
    lies(marred(WIDE, 0, 149), 459, 0, new int[] {2, 1, 1}, 0);
    lies(marred(WIDE, 0, 149, 229), 539, 0, new int[] {3, 1, 1}, 0);
    lies(marred(WIDE, 0, 149, 229, 309), 619, 0, new int[] {4, 1, 1}, 0);
    lies(marred(WIDE, 0, 339), 459, 0, ONES, 1);
  }

  private static void likeOnesLeastDepths() {
    Check.sentence(12, "then DEPTH of PLEAT 0, then of PLEAT 1, and so on");
    lies(marred(WIDE, 0, 239), 459, 0, new int[] {1, 2, 1}, 0);
    lies(marred(WIDE, 0, 329), 459, 0, new int[] {1, 1, 2}, 0);
    lies(marred(WIDE, 0, 239, 319), 539, 0, new int[] {1, 3, 1}, 0);
    lies(marred(WIDE, 0, 239, 329), 459, 0, new int[] {1, 2, 1}, 0);
    lies(marred(WIDE, 0, 239, 409), 539, 0, new int[] {1, 2, 2}, 0);
    // REGIMENT: DEPTH 1 is like 2, and 3 like 4
    lies(marred(WIDE, 3, 138, 218, 298, 274), 859, 0, new int[] {3, 1, 1}, 0);
  }

  private static void likeOnesLeastI() {
    Check.sentence(12, "then i");
    lies(marred(WIDE, 0, 339), 459, 0, ONES, 1);
    lies(marred(WIDE, 0, 329, 419), 539, 0, new int[] {1, 1, 2}, 1);
    lies(marred(WIDE, 0, 239, 339, 419), 539, 0, new int[] {1, 2, 1}, 1);
  }

  private static void mostPleats() {
    Check.sentence(12, "n PLEATS (4 .. 24) (24 of them, each at DEPTH 4)");
    // v 1, APRON 56, SETT of one thread: STEP is 1 and m, and a FLAW behind each PLEAT pushes the next one
    Room x = Room.of("a1;", 9999);
    x.kilt(0, 420, 2420, 0);
    due(x.lay(0, 0), 56 + 23 * 2 + 1 + 56);
    for (int k = 0; k < 24; k++) due(x.pleat(0, k, 0), 56 + 2 * k);
    due(x.laid(0, 1), 103);
    Room y = Room.of("a1;", 9999);
    y.kilt(4, 420, 2420, 0);
    due(y.lay(0, 0), 56 + 23 * 4 + 1 + 56);
    for (int f = 0; f < 10; f++) y.flaw(0, 60 + 4 * f);
    // PLEAT 0 can stand at 56 .. 59, and the FLAWS are each at its remainder when it stands at 56
    due(y.lay(0, 0), 56 + 23 * 4 + 1 + 56 + 1);
    due(y.laid(0, 3), 1);
  }

  /** 24 PLEATS of one thread on a SETT of one thread: the FLAWS keep the under APRON away till all is at its most. */
  private static void allAtMost(int style, int used, int depth, int depthOfLast, int... flaws) {
    Room x = Room.of("a1;", 9999);
    x.kilt(style, 420, 2420, 0);
    for (int f : flaws) x.flaw(0, f);
    due(x.lay(0, 0), used);
    due(x.laid(0, 3), 3);
    due(x.laid(0, 4), 3);
    due(x.laid(0, 1), used - 56);
    due(x.pleat(0, 0, 0), 59);
    due(x.pleat(0, 23, 0), used - 60);
    for (int k = 0; k < 23; k++) due(x.pleat(0, k, 1), k == 22 ? depthOfLast : depth);
    x.flaw(0, used - 56);
    due(x.lay(0, 0), NONE);
    due(x.laid(0, 2), used);
  }

  private static void allAtMost() {
    Check.sentence(12, "j 0 .. 3, DEPTH m (1 .. 4), i 0 .. 3, 24 PLEATS (all at their most at once)");
    allAtMost(0, 234, 4, 4, 121, 177);
    allAtMost(1, 211, 4, 4, 154);
    allAtMost(2, 257, 4, 4, 144, 200);
    allAtMost(3, 211, 3, 3, 154);
    allAtMost(4, 349, 4, 4, 180, 236, 292);
    allAtMost(5, 212, 3, 4, 155);
  }

  private static void layRefuses() {
    Check.sentence(12, "BAD: KILT, BOLT");
    for (int k : new int[] {-1, 3, 8, MIN, MAX}) Check.refused(BAD, Room::some, x -> x.lay(k, 0));
    for (int b : new int[] {-1, 2, 4, MIN, MAX}) Check.refused(BAD, Room::some, x -> x.lay(0, b));
    Check.refused(BAD, Room::full, x -> x.lay(8, 0));
    Check.refused(BAD, Room::full, x -> x.lay(0, 4));
    Check.refused(BAD, Room::new, x -> x.lay(0, 0));
    Room last = Room.full();
    due(last.lay(7, 0) > 0 ? 1 : 0, 1);
    due(last.kiltTold(7, 5), 0);
    due(last.lay(6, 3), NONE);
  }

  private static void layAsksForStripe() {
    Check.sentence(12, "BAD: .. the SETT has no such STRIPE (of STRIPED ones and those under them)");
    for (int style = 0; style < 6; style++) {
      boolean striped = style == 1 || style == 3 || style == 5;
      int of = style;
      for (int stripe : new int[] {0, 1, 2, 3, 9}) {
        Supplier<Room> maker = () -> {
          Room x = Room.of("a10 b20;", 9999);
          x.sett("a10 b20 c5;");
          x.bolt(1, 9999);
          x.kilt(of, 420, 420, stripe);
          return x;
        };
        Room x = maker.get();
        if (striped && stripe > 1) Check.refused(BAD, maker, y -> y.lay(0, 0));
        else due(x.lay(0, 0) > 0 ? 1 : 0, 1);
        if (striped && stripe > 2) due(x.lay(0, 1), BAD);
        else due(x.lay(0, 1) > 0 ? 1 : 0, 1);
      }
    }
    // ahead of NONE
    Room z = Room.of("a10;", 100);
    z.kilt(1, 420, 420, 1);
    due(z.lay(0, 0), BAD);
  }

  private static void layNoneChangesNothing() {
    Check.sentence(12, "NONE: there is no such LAYING (all stays)");
    Supplier<Room> withShort = () -> {
      Room x = Room.some();
      x.bolt(0, 100);
      return x;
    };
    for (int k = 0; k < 3; k++) {
      int of = k;
      Check.refused(NONE, withShort, x -> x.lay(of, 2));
    }
    Check.refused(NONE, Room::full, x -> x.lay(0, 3));
    // on its own BOLT, too
    Supplier<Room> maker = () -> {
      Room x = marred(WIDE, 0, 18);
      x.lay(0, 0);
      x.turn(0);
      x.let(0, -2);
      for (int f : new int[] {19, 99, 179, 259}) x.flaw(0, f);
      return x;
    };
    Check.refused(NONE, maker, x -> x.lay(0, 0));
    Room x = maker.get();
    x.lay(0, 0);
    due(x.laid(0, 2), 379);
    due(x.kiltTold(0, 6), 8);
    due(x.kiltTold(0, 7), 1);
  }

  private static void layAnew() {
    Check.sentence(12, "LAID (anew, if it was: not TURNED, WIDTH v): USED.");
    Room x = Room.withKilt("a79;", 500, 0);
    x.sett("a10;");
    x.bolt(1, 400);
    due(x.lay(0, 0), 454);
    due(x.let(0, 20), 30);
    due(x.turn(0), 1);
    due(x.lay(0, 0), 454);
    due(x.kiltTold(0, 6), 10);
    due(x.kiltTold(0, 7), 0);
    due(x.kiltTold(0, 5), 0);
    due(x.around(0, false), 40);
    x.let(0, -5);
    x.turn(0);
    due(x.lay(0, 1), 154);
    due(x.kiltTold(0, 6), 10);
    due(x.kiltTold(0, 7), 0);
    due(x.kiltTold(0, 5), 1);
    due(x.laid(0, 0), 4);
    due(x.count(6), 1);
  }

  private static void layAnewAroundFlaws() {
    Check.sentence(12, "LAID (anew ..) (around the FLAWS that came, whatever it was LET OUT by)");
    Room x = Room.withKilt("a79;", 9999, 0);
    due(x.lay(0, 0), 454);
    due(x.let(0, 8), 18);
    x.flaw(0, 69);
    x.flaw(0, 254);
    due(x.lay(0, 0), 454);
    due(x.kiltTold(0, 6), 10);
    x.flaw(0, 240);
    due(x.laid(0, 2), 454);
    due(x.lay(0, 0), 533);
    due(x.pleat(0, 1, 1), 2);
  }

  // ---- promise 13

  private static void laidTold() {
    Check.sentence(13, "Of THE LAYING: 0 a, 1 u, 2 USED, 3 j, 4 i.");
    Room x = marred(WIDE, 0, 58, 339 + 80);
    int[] told = {99, 499, 539, 1, 1};
    due(x.lay(0, 0), 539);
    for (int what = 0; what < 5; what++) due(x.laid(0, what), told[what]);
  }

  private static void laidRefuses() {
    Check.sentence(13, "BAD; STATE: it isn't LAID.");
    for (int k : new int[] {-1, 3, 8, MIN, MAX}) Check.refused(BAD, Room::some, x -> x.laid(k, 0));
    for (int what : new int[] {-1, 5, MIN, MAX}) Check.refused(BAD, Room::some, x -> x.laid(0, what));
    for (int what = 0; what < 5; what++) {
      int of = what;
      Check.refused(STATE, Room::some, x -> x.laid(1, of));
    }
    // BAD is ahead
    for (int what : new int[] {-1, 5}) Check.refused(BAD, Room::some, x -> x.laid(1, what));
    Check.refused(BAD, Room::full, x -> x.laid(8, 0));
    Check.refused(STATE, Room::full, x -> x.laid(7, 0));
  }

  // ---- promise 14

  private static void pleatTold() {
    Check.sentence(14, "Of PLEAT k: 0 x(k), 1 DEPTH behind it (NONE: the last one)");
    Room x = marred(WIDE, 0, 149);
    x.lay(0, 0);
    int[] at = {59, 229, 319, 409};
    int[] depths = {2, 1, 1, NONE};
    for (int k = 0; k < 4; k++) {
      due(x.pleat(0, k, 0), at[k]);
      due(x.pleat(0, k, 1), depths[k]);
    }
    Room y = Room.of("a1;", 9999);
    y.kilt(0, 420, 2420, 0);
    y.lay(0, 0);
    due(y.pleat(0, 22, 1), 1);
    due(y.pleat(0, 23, 1), NONE);
    due(y.pleat(0, 24, 1), BAD);
  }

  private static void losses(int inches, int pleats, int... lost) {
    Room x = new Room();
    due(x.kilt(0, inches, pleats, 0), 0);
    for (int k = 0; k < lost.length; k++) due(x.pleat(0, k, 2), lost[k]);
  }

  private static void pleatLosses() {
    Check.sentence(14, "PLEAT k (from 0) loses (k + 1) TAPER by n less k TAPER by n (each cut) threads at the waist");
    losses(420, 420, 0, 0, 0, 0);
    losses(521, 420, 0, 1, 0, 1);
    losses(523, 420, 1, 2, 2, 2);
    losses(426, 420, 3, 3, 3, 3);
    losses(422, 521, 0, 0, 1, 0, 1);
    losses(428, 520, 3, 3, 3, 3, 4);
    losses(4060, 420, 200, 200, 200, 200);
  }

  private static void pleatFolded() {
    Check.sentence(14, "3 how many are folded in behind it by WIDTH NOW (to the next one, or u)");
    Room x = Room.withKilt("a81;", 9999, 0);
    x.lay(0, 0);
    for (int k = 0; k < 4; k++) due(x.pleat(0, k, 3), k == 3 ? 1 : 81);
    x.let(0, 1);
    for (int k = 0; k < 4; k++) due(x.pleat(0, k, 3), k == 3 ? 0 : 80);
    x.let(0, -10);
    for (int k = 0; k < 4; k++) due(x.pleat(0, k, 3), k == 3 ? 10 : 90);
  }

  private static void pleatRefuses() {
    Check.sentence(14, "BAD (no such KILT, PLEAT, thing of it)");
    for (int k : new int[] {-1, 3, 8, MIN, MAX}) Check.refused(BAD, Room::some, x -> x.pleat(k, 0, 2));
    for (int p : new int[] {-1, 4, 24, MIN, MAX}) Check.refused(BAD, Room::some, x -> x.pleat(0, p, 2));
    for (int p : new int[] {-1, 5, 24}) Check.refused(BAD, Room::some, x -> x.pleat(2, p, 0));
    for (int what : new int[] {-1, 4, MIN, MAX}) Check.refused(BAD, Room::some, x -> x.pleat(0, 0, what));
    due(Room.some().pleat(2, 4, 1), NONE);
    due(Room.some().pleat(0, 3, 2), 0);
    Check.refused(BAD, Room::full, x -> x.pleat(8, 0, 2));
  }

  private static void pleatStates() {
    Check.sentence(14, "BAD; STATE (of 0, 1, 3).");
    for (int what : new int[] {0, 1, 3}) {
      for (int p : new int[] {0, 3}) Check.refused(STATE, Room::some, x -> x.pleat(1, p, what));
      Check.refused(BAD, Room::some, x -> x.pleat(1, 4, what));
      Check.refused(BAD, Room::some, x -> x.pleat(1, -1, what));
    }
    Check.refused(3, Room::some, x -> x.pleat(1, 3, 2));
    Check.refused(BAD, Room::some, x -> x.pleat(1, 0, 4));
    Check.refused(BAD, Room::some, x -> x.pleat(1, 0, -1));
  }
}
