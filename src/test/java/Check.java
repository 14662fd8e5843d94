import java.util.ArrayList;
import java.util.List;
import java.util.function.Supplier;

/** What the tests of bounds share: answers that are due, and rooms that must be left as they were. */
final class Check {
  /** A call, or a run of calls of which the last one answers. */
  interface Call {
    long on(Room x);
  }

  /** Calls that bring to light what a room holds; each of them begins on a room of its own. */
  private interface Probe {
    void ask(Room x, List<Long> answers);
  }

  static final int NONE = KiltRoom.NONE, BAD = KiltRoom.BAD, STATE = KiltRoom.STATE, FULL = KiltRoom.FULL;
  static final long NO = KiltRoom.NO;
  static final int NOTHING = -11, OUTSIDE = -12, OTHER_SORT = -13, BELOW_0 = -14;
  static final int MIN = Integer.MIN_VALUE, MAX = Integer.MAX_VALUE;

  private static int wrong, sentences;
  private static String sentence = "";

  private static final List<Probe> PROBES = List.of(Check::counts, Check::setts, Check::kilts, Check::pleats, Check::threads,
      Check::tapeAsSett, Check::tapeAsText, Check::cutting,
      (x, all) -> flawed(x, all, 0), (x, all) -> flawed(x, all, 1), (x, all) -> flawed(x, all, 2), (x, all) -> flawed(x, all, 3),
      (x, all) -> filled(x, all, 0), (x, all) -> filled(x, all, 1), (x, all) -> filled(x, all, 2), (x, all) -> filled(x, all, 3));

  /** The sentence of the document that the next answers hang on. */
  static void sentence(int promise, String words) {
    sentences++;
    sentence = "promise " + promise + ", \"" + words + "\": ";
  }

  static void due(long got, long want) {
    if (got == want) return;
    wrong++;
    System.out.println(sentence + Room.latest() + " answered " + got + ", due is " + want);
  }

  /** The call answers so, and the room is then as one on which it was not called. */
  static void refused(long want, Supplier<Room> maker, Call call) {
    due(call.on(maker.get()), want);
    String told = Room.latest();
    alike(told, maker, () -> {
      Room x = maker.get();
      call.on(x);
      return x;
    });
  }

  /** Both rooms hold the same. */
  static void alike(String told, Supplier<Room> one, Supplier<Room> other) {
    for (Probe p : PROBES) {
      List<Long> left = new ArrayList<>();
      List<Long> right = new ArrayList<>();
      p.ask(one.get(), left);
      p.ask(other.get(), right);
      if (!left.equals(right)) {
        wrong++;
        System.out.println(sentence + told + " changed something");
        return;
      }
    }
  }

  static void end(String name) {
    System.out.println(name + ": " + sentences + " sentences, " + (wrong == 0 ? "all hold" : wrong + " answers are not as due"));
    if (wrong != 0) System.exit(1);
  }

  private static void counts(Room x, List<Long> all) {
    for (int what = 0; what < 7; what++) all.add((long) x.count(what));
    for (int k = -1; k < 9; k++) {
      all.add((long) x.from(k));
      all.add((long) x.needs(k));
      all.add(x.says(k, 0));
      all.add(x.says(k, 1));
    }
    all.add((long) x.force(0));
  }

  private static void setts(Room x, List<Long> all) {
    for (int s = 0; s < 4; s++) {
      for (int what = 0; what < 3; what++) {
        all.add((long) x.settTold(s, what));
        for (int t = 0; t < 10; t++) all.add((long) x.stripe(s, t, what));
      }
      for (int t = 0; t < 40; t++) all.add((long) x.thread(s, t));
    }
  }

  private static void kilts(Room x, List<Long> all) {
    for (int k = 0; k < 8; k++) {
      for (int what = 0; what <= 10; what++) all.add((long) x.kiltTold(k, what));
      for (int what = 0; what < 5; what++) all.add((long) x.laid(k, what));
      all.add((long) x.around(k, false));
      all.add((long) x.around(k, true));
      all.add((long) x.taken(k, 0));
    }
    all.add((long) x.kilt(0, 420, 420, 0));
  }

  private static void pleats(Room x, List<Long> all) {
    for (int k = 0; k < 8; k++) {
      for (int p = 0; p < 6; p++) {
        for (int what = 0; what < 4; what++) all.add((long) x.pleat(k, p, what));
      }
    }
  }

  private static void threads(Room x, List<Long> all) {
    for (int k = 0; k < 8; k++) {
      for (int i = 0; i < 15; i++) {
        all.add((long) x.shown(k, i, false));
        all.add((long) x.shown(k, i, true));
      }
    }
  }

  private static void tapeAsSett(Room x, List<Long> all) {
    all.add((long) x.sett());
    setts(x, all);
  }

  private static void tapeAsText(Room x, List<Long> all) {
    all.add((long) x.text());
    all.add((long) x.force(x.count(3) - 1));
    all.add(x.says(0, 0));
    all.add(x.says(0, 1));
  }

  private static void cutting(Room x, List<Long> all) {
    for (int b = 0; b < 5; b++) all.add((long) x.bolt(0, 160 + b));
    all.add((long) x.band((1 << x.count(2)) - 1));
    for (int k = 0; k < 8; k++) all.add((long) x.from(k));
  }

  /** Where a BOLT has FLAWS, and how long it is. */
  private static void flawed(Room x, List<Long> all, int bolt) {
    for (int at = 299; at <= 320; at++) all.add((long) x.flaw(bolt, at));
    for (int at = 0; at < 160; at++) all.add((long) x.flaw(bolt, at));
    for (int at : new int[] {299, 300, 399, 400, 9998, 9999}) all.add((long) x.flaw(bolt, at));
  }

  /** What a SHEET holds: by FLAWS of a new BOLT, or of BOLT 3. */
  private static void filled(Room x, List<Long> all, int sheet) {
    int made = x.bolt(0, 9999);
    int bolt = made < 0 ? 3 : made;
    for (int sort = 0; sort < 3; sort++) all.add((long) x.flaws(bolt, sheet, sort, 0, 20));
    for (int at = 0; at < 130; at++) all.add((long) x.flaw(bolt, at));
    all.add((long) x.flaw(bolt, 999));
    for (int i = -1; i <= 40; i++) all.add((long) x.cell(sheet, i, 1));
  }
}
