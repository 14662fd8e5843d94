import java.util.function.Supplier;

/** The bounds of promises 22 to 25: what KILTS need, THE CUTTING, and counts. A PLAIN KILT of 20 inches needs 154 of a10; */
public final class BoundsOfBands {
  private static final int BAD = Check.BAD, STATE = Check.STATE, FULL = Check.FULL, NONE = Check.NONE;
  private static final int MIN = Check.MIN, MAX = Check.MAX;

  public static void main(String[] args) {
    needsAtMost();
    needsNoStep();
    needsOfSett0();
    needsWithoutFlaws();
    needsRefuses();
    needsStates();
    needsStripe();
    bandBits();
    bandOfNone();
    bandStates();
    bandBadAheadOfState();
    bandAtMostLength();
    bandOfSett0();
    bandWithFlaws();
    bandWithoutBolts();
    bandOfKiltsThatCantBe();
    bandOfKiltsWithoutStripe();
    bandAsManyAsCanBe();
    bandFewestBolts();
    bandLeastBolts();
    bandNoneLast();
    bandOfEight();
    bandLeavesLaid();
    fromAtFirst();
    fromLatest();
    fromAfterRefused();
    fromBeyond();
    countsAtMost();
    countsRefuse();
    countsOfLaid();
    Check.end("BoundsOfBands");
  }

  private static void due(long got, long want) {
    Check.due(got, want);
  }

  // ---- promise 22

  private static int needOf(String sett, int style, int inches, int pleats) {
    Room x = new Room();
    x.sett(sett);
    x.kilt(style, inches, pleats, 0);
    return x.needs(0);
  }

  private static void needsAtMost() {
    Check.sentence(22, "as many threads as USED would be on a BOLT of LENGTH 9999 of SETT 0 (none can be: it can't be cut)");
    due(needOf("a10;", 0, 420, 420), 154);
    due(needOf("a400;", 0, 4060, 1660), 9999);
    due(needOf("a388;", 0, 3655, 1855), NONE);
    due(needOf("a400;", 0, 4060, 1760), NONE);
    due(needOf("a400;", 4, 4060, 2460), NONE);
    due(needOf("a1;", 0, 420, 2420), 56 + 46 + 1 + 56);
  }

  private static void needsNoStep() {
    Check.sentence(22, "NONE: it can't be cut (no STEP can be)");
    for (int style = 0; style < 6; style++) {
      due(needOf("a2;", style, 420, 420) == NONE ? 1 : 0, style % 2);
      due(needOf("a3;", style, 420, 420) > 0 ? 1 : 0, 1);
    }
    Supplier<Room> maker = () -> {
      Room x = Room.withKilt("a2;", 9999, 1);
      return x;
    };
    Check.refused(NONE, maker, x -> x.needs(0));
  }

  private static void needsOfSett0() {
    Check.sentence(22, "of SETT 0");
    Room x = new Room();
    x.sett("a11;");
    x.sett("a10;");
    x.bolt(1, 9999);
    x.kilt(0, 420, 420, 0);
    x.lay(0, 0);
    due(x.laid(0, 2), 154);
    due(x.needs(0), 168);
  }

  private static void needsWithoutFlaws() {
    Check.sentence(22, "without FLAWS (and whatever BOLTS there are)");
    Room x = new Room();
    x.sett("a10;");
    x.kilt(0, 420, 420, 0);
    due(x.needs(0), 154);
    x.bolt(0, 100);
    x.flaw(0, 4);
    x.flaw(0, 50);
    due(x.needs(0), 154);
    x.bolt(0, 999);
    x.flaw(1, 4);
    x.lay(0, 1);
    x.let(0, -3);
    due(x.laid(0, 2), 164);
    due(x.needs(0), 154);
  }

  private static void needsRefuses() {
    Check.sentence(22, "BAD: KILT");
    for (int k : new int[] {-1, 3, 7, 8, MIN, MAX}) Check.refused(BAD, Room::some, x -> x.needs(k));
    Check.refused(BAD, Room::full, x -> x.needs(8));
    due(Room.full().needs(7) > 0 ? 1 : 0, 1);
    due(new Room().needs(0), BAD);
  }

  private static void needsStates() {
    Check.sentence(22, "BAD: KILT; STATE: there is no SETT");
    Supplier<Room> maker = () -> {
      Room x = new Room();
      x.kilt(0, 420, 420, 0);
      x.kilt(1, 420, 420, 0);
      return x;
    };
    for (int k = 0; k < 2; k++) {
      int of = k;
      Check.refused(STATE, maker, x -> x.needs(of));
    }
    Check.refused(BAD, maker, x -> x.needs(2));
    Check.refused(BAD, maker, x -> x.needs(-1));
    Room x = maker.get();
    due(x.needs(0), STATE);
    x.sett("a10;");
    due(x.needs(0), 154);
    due(x.needs(1), 164);
  }

  private static void needsStripe() {
    Check.sentence(22, "STATE: .. SETT 0 has no such STRIPE (as in lay())");
    for (int style = 0; style < 6; style++) {
      int of = style;
      for (int stripe : new int[] {0, 1, 2, 9}) {
        Supplier<Room> maker = () -> {
          Room x = new Room();
          x.sett("a10 b20;");
          x.sett("a10 b20 c5;");
          x.kilt(of, 420, 420, stripe);
          return x;
        };
        if (style % 2 == 1 && stripe > 1) Check.refused(STATE, maker, x -> x.needs(0));
        else due(maker.get().needs(0) > 0 ? 1 : 0, 1);
      }
    }
  }

  // ---- promise 23

  /** 4 PLAIN KILTS that need 154 each, and BOLTS: of SETT 0, or, where the LENGTH is below 0, of SETT 1. */
  private static Room band(int... lengths) {
    Room x = new Room();
    x.sett("a10;");
    x.sett("b10;");
    for (int length : lengths) x.bolt(length < 0 ? 1 : 0, Math.abs(length));
    for (int k = 0; k < 4; k++) x.kilt(0, 420, 420, 0);
    return x;
  }

  private static void cut(Room x, int bits, int many, int... bolts) {
    due(x.band(bits), many);
    for (int k = 0; k < 8; k++) due(x.from(k), k < bolts.length ? bolts[k] : NONE);
  }

  private static void bandBits() {
    Check.sentence(23, "KILTS that are told as bits; BAD: bits");
    for (int bits : new int[] {16, 17, 255, 256, -1, MIN, MAX}) Check.refused(BAD, () -> withCut(999), x -> x.band(bits));
    cut(band(999), 15, 4, 0, 0, 0, 0);
    cut(band(999), 8, 1, NONE, NONE, NONE, 0);
    cut(band(999), 1, 1, 0);
    for (int bits : new int[] {256, 511, -1, MIN, MAX}) Check.refused(BAD, Room::full, x -> x.band(bits));
    Check.refused(BAD, Room::new, x -> x.band(1));
    Room x = Room.of("a10;", 999);
    due(x.band(1), BAD);
    x.kilt(0, 420, 420, 0);
    due(x.band(1), 1);
    due(x.band(2), BAD);
  }

  private static Room withCut(int length) {
    Room x = band(length);
    x.band(6);
    return x;
  }

  private static void bandOfNone() {
    Check.sentence(23, "KILTS that are told as bits (none of them)");
    cut(band(999), 0, 0);
    Room x = withCut(999);
    cut(x, 0, 0);
    Room y = new Room();
    y.sett("a1;");
    due(y.band(0), 0);
  }

  private static void bandStates() {
    Check.sentence(23, "STATE: there is no SETT.");
    Check.refused(STATE, Room::new, x -> x.band(0));
    Supplier<Room> maker = () -> {
      Room x = new Room();
      x.kilt(0, 420, 420, 0);
      x.kilt(0, 420, 420, 0);
      return x;
    };
    for (int bits = 0; bits < 4; bits++) {
      int of = bits;
      Check.refused(STATE, maker, x -> x.band(of));
    }
  }

  private static void bandBadAheadOfState() {
    Check.sentence(23, "BAD: bits; STATE");
    Check.refused(BAD, Room::new, x -> x.band(1));
    Check.refused(BAD, Room::new, x -> x.band(-1));
    Room x = new Room();
    x.kilt(0, 420, 420, 0);
    due(x.band(2), BAD);
    due(x.band(1), STATE);
  }

  private static void bandAtMostLength() {
    Check.sentence(23, "all of a BOLT not more than its LENGTH");
    cut(band(153), 15, 0);
    cut(band(154), 15, 1, 0);
    cut(band(307), 15, 1, 0);
    cut(band(308), 15, 2, 0, 0);
    cut(band(461), 15, 2, 0, 0);
    cut(band(462), 15, 3, 0, 0, 0);
    cut(band(615), 15, 3, 0, 0, 0);
    cut(band(616), 15, 4, 0, 0, 0, 0);
    cut(band(153, 153, 153, 153), 15, 0);
    cut(band(153, 153, 153, 154), 15, 1, 3);
    // 9999 threads, all of them
    Room x = Room.of("a400;", 9998);
    x.bolt(0, 9999);
    x.kilt(0, 4060, 1660, 0);
    cut(x, 1, 1, 1);
  }

  private static void bandOfSett0() {
    Check.sentence(23, "it is cut from one BOLT of SETT 0");
    cut(band(-9999), 15, 0);
    cut(band(-9999, 154), 15, 1, 1);
    cut(band(154, -9999, 154), 15, 2, 0, 2);
    // each from one BOLT: two halves are none
    cut(band(100, 100), 1, 0);
  }

  private static void bandWithFlaws() {
    Check.sentence(23, "(FLAWS don't matter here)");
    Room x = band(308);
    for (int f = 0; f < 10; f++) x.flaw(0, 30 * f);
    cut(x, 15, 2, 0, 0);
  }

  private static void bandWithoutBolts() {
    Check.sentence(23, "THE CUTTING of KILTS (bits): how many (there is no BOLT)");
    cut(band(), 15, 0);
    cut(band(), 0, 0);
  }

  private static void bandOfKiltsThatCantBe() {
    Check.sentence(23, "(none can be: it can't be cut)");
    Room x = new Room();
    x.sett("a2;");
    x.bolt(0, 9999);
    x.kilt(1, 420, 420, 0);
    x.kilt(0, 420, 420, 0);
    x.kilt(3, 420, 420, 0);
    cut(x, 7, 1, NONE, 0, NONE);
    cut(x, 5, 0);
    Room y = Room.of("a388;", 9999);
    y.kilt(0, 3655, 1855, 0);
    cut(y, 1, 0);
  }

  private static void bandOfKiltsWithoutStripe() {
    Check.sentence(23, "(A KILT whose STRIPE SETT 0 hasn't can't be cut.)");
    Room x = new Room();
    x.sett("a10 b4;");
    x.sett("a10 b4 c3;");
    x.bolt(0, 9999);
    x.bolt(1, 9999);
    for (int stripe = 1; stripe <= 2; stripe++) {
      for (int style = 0; style < 4; style++) x.kilt(style, 420, 420, stripe);
    }
    cut(x, 255, 6, 0, 0, 0, 0, 0, NONE, 0, NONE);
    cut(x, 32, 0);
  }

  private static void bandAsManyAsCanBe() {
    Check.sentence(23, "THE CUTTING: as many KILTS as can be");
    Room x = new Room();
    x.sett("a10;");
    for (int inches : new int[] {460, 420, 420, 460}) x.kilt(0, inches, 400 + inches % 100, 0);
    int needed = x.needs(0);
    due(needed >= 308 && needed < 462 ? 1 : 0, 1);
    x.bolt(0, needed);
    cut(x, 15, 2, NONE, 0, 0, NONE);
    cut(x, 9, 1, 0);
    cut(x, 11, 1, 0);
    // though it takes more BOLTS
    cut(band(154, 462), 15, 4, 0, 1, 1, 1);
    cut(band(462, 154), 15, 4, 0, 0, 0, 1);
  }

  private static void bandFewestBolts() {
    Check.sentence(23, "then the fewest BOLTS from which some are cut");
    cut(band(154, 616), 15, 4, 1, 1, 1, 1);
    cut(band(154, 154, 308), 3, 2, 2, 2);
    cut(band(154, 154, 154, 616), 15, 4, 3, 3, 3, 3);
    cut(band(154, 154, 154, 462), 15, 4, 0, 3, 3, 3);
    cut(band(154, 154, 308, 308), 15, 4, 2, 2, 3, 3);
    cut(band(154, 308, 154), 15, 4, 0, 1, 1, 2);
  }

  private static void bandLeastBolts() {
    Check.sentence(23, "then KILTS by numbers from the least BOLT");
    cut(band(154, 154, 154, 154), 15, 4, 0, 1, 2, 3);
    cut(band(616, 616, 616, 616), 15, 4, 0, 0, 0, 0);
    cut(band(308, 308), 15, 4, 0, 0, 1, 1);
    cut(band(308, 462), 15, 4, 0, 0, 1, 1);
    cut(band(462, 308), 15, 4, 0, 0, 0, 1);
    cut(band(154, 308), 12, 2, NONE, NONE, 1, 1);
    cut(band(999, 154), 10, 2, NONE, 0, NONE, 0);
  }

  private static void bandNoneLast() {
    Check.sentence(23, "(none last)");
    cut(band(154), 15, 1, 0, NONE, NONE, NONE);
    cut(band(154, 154), 15, 2, 0, 1, NONE, NONE);
    cut(band(308), 14, 2, NONE, 0, 0, NONE);
    cut(band(100, 462), 15, 3, 1, 1, 1, NONE);
  }

  private static void bandOfEight() {
    Check.sentence(23, "KILTS (8 at most) .. its BOLTS (4 at most)");
    Room x = band(308, 308, 308, 308);
    for (int k = 4; k < 8; k++) x.kilt(0, 420, 420, 0);
    cut(x, 255, 8, 0, 0, 1, 1, 2, 2, 3, 3);
    cut(x, 128, 1, NONE, NONE, NONE, NONE, NONE, NONE, NONE, 0);
    due(x.band(256), BAD);
    Room y = band(307, 307, 307, 307);
    for (int k = 4; k < 8; k++) y.kilt(0, 420, 420, 0);
    cut(y, 255, 4, 0, 1, 2, 3);
    cut(y, 240, 4, NONE, NONE, NONE, NONE, 0, 1, 2, 3);
  }

  private static void bandLeavesLaid() {
    Check.sentence(23, "(KILTS that are LAID take nothing of a BOLT, nor are they taken off)");
    Room x = band(154);
    x.lay(0, 0);
    x.lay(1, 0);
    cut(x, 15, 1, 0);
    due(x.kiltTold(0, 5), 0);
    due(x.kiltTold(1, 5), 0);
    due(x.count(6), 2);
  }

  // ---- promise 24

  private static void fromAtFirst() {
    Check.sentence(24, "NONE: none. (ahead of any band())");
    Room x = band(999);
    for (int k = 0; k < 8; k++) due(x.from(k), NONE);
    due(x.band(16), BAD);
    for (int k = 0; k < 8; k++) due(x.from(k), NONE);
  }

  private static void fromLatest() {
    Check.sentence(24, "The BOLT of a KILT by the latest band()");
    Room x = band(154, 308);
    cut(x, 15, 3, 0, 1, 1, NONE);
    cut(x, 8, 1, NONE, NONE, NONE, 0);
    cut(x, 0, 0);
    cut(x, 6, 2, NONE, 1, 1);
    x.bolt(0, 999);
    x.kilt(0, 420, 420, 0);
    due(x.from(1), 1);
    due(x.from(4), NONE);
    cut(x, 31, 5, 2, 2, 2, 2, 2);
  }

  private static void fromAfterRefused() {
    Check.sentence(24, "by the latest band() that was not refused");
    Room x = band(999);
    due(x.band(5), 2);
    for (int bits : new int[] {-1, 16, MAX, MIN}) {
      due(x.band(bits), BAD);
      int[] bolts = {0, NONE, 0, NONE};
      for (int k = 0; k < 4; k++) due(x.from(k), bolts[k]);
    }
  }

  private static void fromBeyond() {
    Check.sentence(24, "NONE: none. (no such KILT)");
    for (int k : new int[] {-1, 4, 7, 8, MIN, MAX}) Check.refused(NONE, () -> withCut(999), x -> x.from(k));
    due(withCut(999).from(1), 0);
    due(withCut(999).from(2), 0);
    due(withCut(999).from(3), NONE);
  }

  // ---- promise 25

  private static void countsAtMost() {
    Check.sentence(25, "How many: 0 SETTS, 1 BOLTS, 2 KILTS, 3 TEXTS, 4 bytes of THE TAPE, 5 THE RULE, 6 KILTS that are LAID.");
    int[] none = {0, 0, 0, 1, 0, 0, 0};
    for (int what = 0; what < 7; what++) due(new Room().count(what), none[what]);
    Room x = new Room();
    for (int s = 0; s < 4; s++) {
      x.sett("a" + (10 + s) + ";");
      x.bolt(s, 9999);
    }
    for (int k = 0; k < 8; k++) {
      x.kilt(0, 420, 420, 0);
      x.lay(k, k % 4);
    }
    for (int t = 0; t < 5; t++) x.text("price 1;fit 1;");
    x.force(5);
    for (int i = 0; i < 20; i++) x.feed(8, 0);
    for (int again = 0; again < 2; again++) {
      int[] all = {4, 4, 8, 6, 160, 5, 8};
      for (int what = 0; what < 7; what++) due(x.count(what), all[what]);
      due(x.sett(), FULL);
      due(x.bolt(0, 100), FULL);
      due(x.kilt(0, 420, 420, 0), FULL);
      due(x.text(), FULL);
      due(x.feed(1, 0), FULL);
      due(x.force(6), BAD);
    }
  }

  private static void countsRefuse() {
    Check.sentence(25, "BAD. (no such count)");
    for (int what : new int[] {-1, 7, 8, MIN, MAX}) {
      Check.refused(BAD, Room::some, x -> x.count(what));
      Check.refused(BAD, Room::full, x -> x.count(what));
    }
  }

  private static void countsOfLaid() {
    Check.sentence(25, "6 KILTS that are LAID (each once, and for good)");
    Room x = band(999, 153);
    due(x.count(6), 0);
    due(x.lay(3, 1), NONE);
    due(x.count(6), 0);
    x.lay(3, 0);
    due(x.count(6), 1);
    x.lay(3, 0);
    due(x.count(6), 1);
    due(x.lay(3, 1), NONE);
    due(x.count(6), 1);
    x.lay(0, 0);
    due(x.count(6), 2);
    x.flaw(0, 50);
    due(x.count(6), 2);
  }
}
