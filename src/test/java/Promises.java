/** The document's promises, one method each, with their edges and what they refuse. */
public final class Promises {
  private static int wrong = 0;
  private static int promise = 0;
  private static int row = 0;

  private static void due(long got, long want) {
    row++;
    if (got != want) {
      wrong++;
      System.out.println("promise " + promise + ", row " + row + ": answered " + got + ", due is " + want);
    }
  }

  private static void begin(int number) {
    promise = number;
    row = 0;
  }

  public static void main(String[] args) {
    newObject();
    feed();
    sett();
    settTold();
    stripe();
    thread();
    twill();
    bolt();
    flaw();
    kilt();
    kiltTold();
    lay();
    laidAndTies();
    stylesLaid();
    pleat();
    shown();
    around();
    let();
    letEdges();
    turn();
    text();
    textDepth();
    force();
    says();
    needs();
    band();
    bandTies();
    from();
    count();
    sheet();
    cell();
    flaws();
    taken();
    System.out.println(wrong == 0 ? "all promises hold" : wrong + " answers are not as due");
    if (wrong != 0) System.exit(1);
  }

  private static void tape(Room x, String s) {
    x.tape(s);
  }

  private static int settOf(Room x, String s) {
    tape(x, s);
    return x.sett();
  }

  private static int textOf(Room x, String s) {
    tape(x, s);
    return x.text();
  }

  /** A room with one SETT and one BOLT of it. */
  private static Room room(String sett, int length) {
    Room x = new Room();
    settOf(x, sett);
    x.bolt(0, length);
    return x;
  }

  private static void newObject() {
    begin(1);
    Room x = new Room();
    for (int what = 0; what < 7; what++) due(x.count(what), what == 3 ? 1 : 0);
    due(x.settTold(0, 0), KiltRoom.BAD);
    due(x.flaw(0, 0), KiltRoom.BAD);
    due(x.kiltTold(0, 0), KiltRoom.BAD);
    due(x.from(0), KiltRoom.NONE);
  }

  private static void feed() {
    begin(2);
    Room x = new Room();
    due(x.feed(0, 1), KiltRoom.BAD);
    due(x.feed(9, 1), KiltRoom.BAD);
    due(x.feed(-1, 1), KiltRoom.BAD);
    due(x.feed(3, 0x773B3561L), 3);
    due(x.sett(), 0);
    due(x.stripe(0, 0, 1), 5);
    due(x.feed(8, -1L), 8);
    due(x.sett(), -100);
    for (int i = 1; i <= 19; i++) due(x.feed(8, 0), 8 * i);
    due(x.feed(1, 0), 153);
    due(x.feed(8, 0), KiltRoom.FULL);
    due(x.count(4), 153);
    due(x.feed(9, 0), KiltRoom.BAD);
    due(x.feed(7, 0), 160);
    due(x.feed(1, 0), KiltRoom.FULL);
    due(x.feed(0, 0), KiltRoom.BAD);
  }

  private static void sett() {
    begin(3);
    Room x = new Room();
    due(settOf(x, ""), -100);
    due(settOf(x, "a"), -101);
    due(settOf(x, "a5"), -102);
    due(settOf(x, "a05;"), -101);
    due(settOf(x, "a0;"), -101);
    due(settOf(x, "a;"), -101);
    due(settOf(x, "a5  b3;"), -103);
    due(settOf(x, "a5 ;"), -103);
    due(settOf(x, "a5b3;"), -102);
    due(settOf(x, "a5\nb3;"), -102);
    due(settOf(x, "i5;"), -100);
    due(settOf(x, "A5;"), -100);
    due(settOf(x, " a5;"), -100);
    due(settOf(x, "a1234;"), -104);
    due(settOf(x, "a5;;"), -103);
    due(settOf(x, "a5/ "), -103);
    due(settOf(x, "a5 b3"), -105);
    due(settOf(x, "a5 b3 "), -106);
    due(settOf(x, "a1 b1 c1 d1 e1 f1 g1 h1 a1 b1"), -129);
    due(settOf(x, "a1 b1 c1 d1 e1 f1 g1 h1 a1 b1 c1;"), -129);
    due(settOf(x, "a401;"), -9);
    due(settOf(x, "a100 b100 c101/"), -9);
    due(x.count(4), 0);
    due(x.count(0), 0);
    due(settOf(x, "a100 b100 c100/"), 0);
    due(settOf(x, "a100 b100 c200;"), 1);
    due(settOf(x, "a1 b1 c1 d1 e1 f1 g1 h1 a1 b1;"), 2);
    due(settOf(x, "h400;"), 3);
    due(settOf(x, "h4;"), KiltRoom.FULL);
    due(x.count(4), 3);
    due(x.count(0), 4);
  }

  private static void settTold() {
    begin(4);
    Room x = new Room();
    settOf(x, "a5 b3 c2/");
    settOf(x, "a5/");
    settOf(x, "a5 b3/");
    settOf(x, "a5 b3 c2 d1;");
    int[][] told = {{13, 3, 1}, {5, 1, 1}, {8, 2, 1}, {11, 4, 0}};
    for (int s = 0; s < 4; s++) for (int what = 0; what < 3; what++) due(x.settTold(s, what), told[s][what]);
    due(x.settTold(-1, 0), KiltRoom.BAD);
    due(x.settTold(4, 0), KiltRoom.BAD);
    due(x.settTold(0, -1), KiltRoom.BAD);
    due(x.settTold(0, 3), KiltRoom.BAD);
  }

  private static void stripe() {
    begin(5);
    Room x = new Room();
    settOf(x, "a5 h4 c1/");
    int[][] told = {{0, 5, 2}, {7, 4, 6}, {2, 1, 9}};
    for (int s = 0; s < 3; s++) for (int what = 0; what < 3; what++) due(x.stripe(0, s, what), told[s][what]);
    due(x.stripe(0, 3, 0), KiltRoom.BAD);
    due(x.stripe(0, -1, 0), KiltRoom.BAD);
    due(x.stripe(1, 0, 0), KiltRoom.BAD);
    due(x.stripe(0, 0, 3), KiltRoom.BAD);
    due(x.stripe(0, 0, -1), KiltRoom.BAD);
  }

  private static void thread() {
    begin(6);
    Room x = new Room();
    settOf(x, "a2 b3 c1 d2/");
    settOf(x, "a2 b3 c1 d2;");
    String turned = "aabbbcddcbbb";
    String repeated = "aabbbcdd";
    for (int t = 0; t < 40; t++) {
      due(x.thread(0, t), turned.charAt(t % 12) - 'a');
      due(x.thread(1, t), repeated.charAt(t % 8) - 'a');
    }
    due(x.thread(1, Integer.MAX_VALUE), 3);
    due(x.thread(0, -1), KiltRoom.BAD);
    due(x.thread(2, 0), KiltRoom.BAD);
    due(x.thread(-1, 0), KiltRoom.BAD);
  }

  private static void twill() {
    begin(7);
    Room x = new Room();
    settOf(x, "a2 b3 c1 d2;");
    String warp = "aabbbcdd";
    for (int a = 0; a < 12; a++) {
      for (int b = 0; b < 12; b++) due(x.twill(0, a, b), warp.charAt(((a + b) % 4 < 2 ? a : b) % 8) - 'a');
    }
    due(x.twill(0, 99999, 99999), warp.charAt(99999 % 8) - 'a');
    due(x.twill(0, 100000, 0), KiltRoom.BAD);
    due(x.twill(0, 0, 100000), KiltRoom.BAD);
    due(x.twill(0, -1, 0), KiltRoom.BAD);
    due(x.twill(0, 0, -1), KiltRoom.BAD);
    due(x.twill(1, 0, 0), KiltRoom.BAD);
  }

  private static void bolt() {
    begin(8);
    Room x = new Room();
    due(x.bolt(0, 100), KiltRoom.BAD);
    settOf(x, "a2;");
    due(x.bolt(0, 99), KiltRoom.BAD);
    due(x.bolt(0, 10000), KiltRoom.BAD);
    due(x.bolt(-1, 100), KiltRoom.BAD);
    due(x.bolt(0, 100), 0);
    due(x.bolt(0, 9999), 1);
    due(x.bolt(0, 100), 2);
    due(x.bolt(0, 100), 3);
    due(x.bolt(0, 100), KiltRoom.FULL);
    due(x.bolt(0, 99), KiltRoom.BAD);
    due(x.count(1), 4);
  }

  private static void flaw() {
    begin(9);
    Room x = room("a2;", 100);
    due(x.flaw(0, -1), KiltRoom.BAD);
    due(x.flaw(0, 100), KiltRoom.BAD);
    due(x.flaw(1, 5), KiltRoom.BAD);
    due(x.flaw(0, 0), 1);
    due(x.flaw(0, 99), 2);
    due(x.flaw(0, 99), KiltRoom.BAD);
    for (int i = 3; i <= 10; i++) due(x.flaw(0, i), i);
    due(x.flaw(0, 10), KiltRoom.BAD);
    due(x.flaw(0, 50), KiltRoom.FULL);
    // KILTS that are LAID stay so
    Room y = room("a10;", 500);
    y.kilt(0, 420, 420, 0);
    due(y.lay(0, 0), 154);
    due(y.flaw(0, 50), 1);
    due(y.laid(0, 2), 154);
    due(y.shown(0, 6, false), 0);
  }

  private static void kilt() {
    begin(10);
    Room x = new Room();
    int[][] bad = {{-1, 420, 420, 0}, {6, 420, 420, 0}, {0, 320, 420, 0}, {0, 4120, 420, 0}, {0, 419, 419, 0}, {0, 461, 420, 0},
        {0, 420, 320, 0}, {0, 420, 2520, 0}, {0, 420, 419, 0}, {0, 420, 421, 0}, {0, 420, 420, -1}, {0, 420, 420, 10},
        {0, -420, 420, 0}, {0, 420, -420, 0}, {0, 421, 2420, 0}, {0, 435, 2422, 0}, {0, 431, 2120, 0}};
    for (int[] b : bad) due(x.kilt(b[0], b[1], b[2], b[3]), KiltRoom.BAD);
    due(x.count(2), 0);
    int[][] good = {{0, 420, 420, 0}, {5, 4060, 2460, 9}, {0, 420, 2420, 0}, {0, 435, 2423, 0}, {0, 431, 2121, 0},
        {3, 460, 420, 1}, {1, 460, 460, 0}, {2, 421, 421, 9}};
    for (int i = 0; i < 8; i++) due(x.kilt(good[i][0], good[i][1], good[i][2], good[i][3]), i);
    due(x.kilt(0, 420, 420, 0), KiltRoom.FULL);
    due(x.kilt(6, 420, 420, 0), KiltRoom.BAD);
  }

  private static void kiltTold() {
    begin(11);
    Room x = room("a10 b4;", 9999);
    x.kilt(3, 523, 621, 1);
    // v 115 / 12, APRON 115 - 6 * 9, TAPER 2 * 5 / 2
    int[] told = {3, 9, 61, 5, 6, -1, -1, 0, 5, 23, 21};
    for (int what = 0; what <= 10; what++) due(x.kiltTold(0, what), told[what]);
    due(x.kiltTold(0, 11), KiltRoom.BAD);
    due(x.kiltTold(0, -1), KiltRoom.BAD);
    due(x.kiltTold(1, 0), KiltRoom.BAD);
    due(x.kiltTold(-1, 0), KiltRoom.BAD);
    x.bolt(0, 5000);
    x.lay(0, 1);
    x.let(0, -2);
    x.turn(0);
    due(x.kiltTold(0, 5), 1);
    due(x.kiltTold(0, 6), 7);
    due(x.kiltTold(0, 7), 1);
    due(x.kiltTold(0, 1), 9);
    x.lay(0, 0);
    due(x.kiltTold(0, 5), 0);
    due(x.kiltTold(0, 6), 9);
    due(x.kiltTold(0, 7), 0);
  }

  private static void lay() {
    begin(12);
    Room x = new Room();
    settOf(x, "a10;");
    x.bolt(0, 153);
    x.bolt(0, 154);
    due(x.kilt(0, 420, 420, 9), 0);
    due(x.kilt(1, 420, 420, 1), 1);
    due(x.kilt(3, 420, 420, 1), 2);
    due(x.kilt(5, 420, 420, 1), 3);
    due(x.lay(0, 0), KiltRoom.NONE);
    due(x.count(6), 0);
    due(x.lay(0, 1), 154);
    due(x.count(6), 1);
    for (int k = 1; k <= 3; k++) due(x.lay(k, 1), KiltRoom.BAD);
    due(x.lay(4, 1), KiltRoom.BAD);
    due(x.lay(-1, 1), KiltRoom.BAD);
    due(x.lay(0, 2), KiltRoom.BAD);
    due(x.lay(0, -1), KiltRoom.BAD);
    // NONE: all stays
    x.let(0, -1);
    x.turn(0);
    due(x.lay(0, 0), KiltRoom.NONE);
    due(x.kiltTold(0, 5), 1);
    due(x.kiltTold(0, 6), 9);
    due(x.kiltTold(0, 7), 1);
    due(x.lay(0, 1), 154);
    due(x.kiltTold(0, 6), 10);
    due(x.kiltTold(0, 7), 0);
    // a STEP that isn't above v can't be
    Room y = room("a2;", 9999);
    for (int style = 0; style < 6; style++) y.kilt(style, 420, 420, 0);
    boolean[] can = {true, false, true, false, true, false};
    for (int style = 0; style < 6; style++) due(y.lay(style, 0) == KiltRoom.NONE ? 0 : 1, can[style] ? 1 : 0);
  }

  private static void laying(int flaw, int used, int j, int[] depths, int i) {
    Room x = room("a10;", 400);
    x.kilt(0, 420, 420, 0);
    if (flaw >= 0) x.flaw(0, flaw);
    due(x.lay(0, 0), used);
    if (used == KiltRoom.NONE) return;
    due(x.laid(0, 0), 4 + 10 * j);
    due(x.laid(0, 1), used - 40);
    due(x.laid(0, 2), used);
    due(x.laid(0, 3), j);
    due(x.laid(0, 4), i);
    int at = 44 + 10 * j;
    for (int k = 0; k < 4; k++) {
      due(x.pleat(0, k, 0), at);
      due(x.pleat(0, k, 1), k == 3 ? KiltRoom.NONE : depths[k]);
      at += k == 3 ? 0 : 10 + 10 * depths[k];
    }
  }

  private static void laidAndTies() {
    begin(13);
    int[] least = {1, 1, 1};
    laying(-1, 154, 0, least, 0);
    laying(3, 154, 0, least, 0);
    laying(4, 164, 1, least, 0);
    laying(13, 164, 1, least, 0);
    laying(24, 184, 3, least, 0);
    laying(34, KiltRoom.NONE, 0, least, 0);
    laying(54, 154, 0, least, 0);
    laying(63, 154, 0, least, 0);
    laying(70, 164, 0, new int[] {2, 1, 1}, 0);
    laying(90, 164, 0, new int[] {1, 2, 1}, 0);
    laying(104, 164, 0, new int[] {1, 1, 2}, 0);
    laying(113, 164, 0, new int[] {1, 1, 2}, 0);
    laying(114, 164, 0, least, 1);
    laying(123, 164, 0, least, 1);
    laying(124, 174, 0, least, 2);
    laying(153, 194, 0, new int[] {1, 1, 2}, 3);
    laying(154, 154, 0, least, 0);
    Room x = room("a10;", 400);
    x.kilt(0, 420, 420, 0);
    due(x.laid(0, 0), KiltRoom.STATE);
    due(x.laid(0, 5), KiltRoom.BAD);
    due(x.laid(0, -1), KiltRoom.BAD);
    due(x.laid(1, 0), KiltRoom.BAD);
    x.lay(0, 0);
    due(x.laid(0, 5), KiltRoom.BAD);
    due(x.laid(0, 4), 0);
  }

  private static void styled(String sett, int style, int used, int[] starts, int[] depths) {
    Room x = room(sett, 9999);
    x.kilt(style, 420, 420, 0);
    due(x.lay(0, 0), used);
    for (int k = 0; k < 4; k++) due(x.pleat(0, k, 0), starts[k]);
    for (int k = 0; k < 3; k++) due(x.pleat(0, k, 1), depths[k]);
  }

  private static void stylesLaid() {
    begin(12);
    int[] ones = {1, 1, 1};
    int[] twos = {2, 2, 2};
    styled("a10;", 1, 164, new int[] {49, 69, 89, 109}, twos);
    styled("a10;", 2, 184, new int[] {44, 74, 104, 134}, ones);
    styled("a10;", 3, 164, new int[] {49, 69, 89, 109}, ones);
    styled("a10;", 4, 214, new int[] {44, 84, 124, 164}, ones);
    styled("a10;", 5, 164, new int[] {49, 69, 89, 109}, ones);
    styled("a7;", 1, 142, new int[] {47, 61, 75, 89}, twos);
    styled("a7;", 3, 142, new int[] {47, 61, 75, 89}, ones);
    styled("a7;", 5, 142, new int[] {47, 61, 75, 92}, ones);
    // REGIMENT's third DEPTH is as long as its fourth
    styled("a3;", 3, 132, new int[] {44, 56, 68, 80}, new int[] {3, 3, 3});
  }

  private static void pleat() {
    begin(14);
    Room x = room("a1 b1 c1 d1 e1 f1 g1 h1;", 500);
    x.kilt(0, 423, 420, 0);
    int[] lost = {1, 2, 1, 2};
    for (int k = 0; k < 4; k++) {
      due(x.pleat(0, k, 2), lost[k]);
      due(x.pleat(0, k, 0), KiltRoom.STATE);
      due(x.pleat(0, k, 1), KiltRoom.STATE);
      due(x.pleat(0, k, 3), KiltRoom.STATE);
    }
    due(x.pleat(0, 4, 0), KiltRoom.BAD);
    due(x.pleat(0, -1, 0), KiltRoom.BAD);
    due(x.pleat(0, 0, 4), KiltRoom.BAD);
    due(x.pleat(0, 0, -1), KiltRoom.BAD);
    due(x.pleat(1, 0, 0), KiltRoom.BAD);
    due(x.lay(0, 0), 168);
    int[] starts = {48, 67, 86, 105};
    int[] folded = {8, 8, 8, 4};
    for (int k = 0; k < 4; k++) {
      due(x.pleat(0, k, 0), starts[k]);
      due(x.pleat(0, k, 1), k == 3 ? KiltRoom.NONE : 1);
      due(x.pleat(0, k, 2), lost[k]);
      due(x.pleat(0, k, 3), folded[k]);
    }
    x.let(0, 3);
    for (int k = 0; k < 4; k++) due(x.pleat(0, k, 3), folded[k] - 3);
  }

  private static void shown() {
    begin(15);
    Room x = room("a1 b1 c1 d1 e1 f1 g1 h1;", 500);
    x.kilt(0, 423, 420, 0);
    due(x.shown(0, 0, false), KiltRoom.STATE);
    due(x.shown(0, -1, false), KiltRoom.STATE);
    due(x.shown(1, 0, false), KiltRoom.BAD);
    x.lay(0, 0);
    due(x.shown(0, 0, false), 0);
    due(x.shown(0, 10, false), 2);
    due(x.shown(0, 11, false), 3);
    due(x.shown(0, 43, false), 3);
    due(x.shown(0, 44, false), KiltRoom.NONE);
    due(x.shown(0, -1, false), KiltRoom.NONE);
    due(x.shown(0, 0, true), 0);
    due(x.shown(0, 9, true), 1);
    due(x.shown(0, 10, true), 4);
    due(x.shown(0, 18, true), 4);
    due(x.shown(0, 19, true), 6);
    due(x.shown(0, 37, true), 2);
    due(x.shown(0, 38, true), KiltRoom.NONE);
    x.turn(0);
    due(x.shown(0, 0, false), 3);
    due(x.shown(0, 43, false), 0);
    due(x.shown(0, 0, true), 2);
    due(x.shown(0, 37, true), 0);
    due(x.shown(0, 38, true), KiltRoom.NONE);
    x.turn(0);
    due(x.shown(0, 10, false), 2);
    x.let(0, 2);
    due(x.shown(0, 12, false), 4);
    due(x.shown(0, 13, false), 3);
    due(x.shown(0, 11, true), 3);
    due(x.shown(0, 12, true), 4);
  }

  private static void around() {
    begin(16);
    Room x = room("a1 b1 c1 d1 e1 f1 g1 h1;", 500);
    x.kilt(0, 423, 420, 0);
    due(x.around(0, false), KiltRoom.STATE);
    due(x.around(0, true), KiltRoom.STATE);
    due(x.around(1, true), KiltRoom.BAD);
    due(x.around(-1, true), KiltRoom.BAD);
    x.lay(0, 0);
    due(x.around(0, false), 44);
    due(x.around(0, true), 38);
    x.let(0, -8);
    due(x.around(0, false), 12);
    due(x.around(0, true), 6);
  }

  private static void let() {
    begin(17);
    Room x = room("a1 b1 c1 d1 e1 f1 g1 h1;", 500);
    x.kilt(0, 423, 420, 0);
    due(x.let(0, 0), KiltRoom.STATE);
    due(x.let(0, 21), KiltRoom.BAD);
    due(x.let(0, -21), KiltRoom.BAD);
    due(x.let(0, Integer.MIN_VALUE), KiltRoom.BAD);
    due(x.let(1, 0), KiltRoom.BAD);
    x.lay(0, 0);
    due(x.let(0, 5), KiltRoom.STATE);
    due(x.let(0, 4), 15);
    due(x.let(0, 1), KiltRoom.STATE);
    due(x.let(0, -13), KiltRoom.STATE);
    due(x.let(0, -12), 3);
    due(x.let(0, -1), KiltRoom.STATE);
    due(x.let(0, 8), 11);
    due(x.let(0, 0), 11);
    x.flaw(0, 59);
    due(x.let(0, 0), 11);
    due(x.let(0, 1), KiltRoom.STATE);
    x.flaw(0, 20);
    x.flaw(0, 150);
    due(x.let(0, -1), 10);
    x.flaw(0, 110);
    due(x.let(0, 0), KiltRoom.STATE);
    due(x.let(0, -4), KiltRoom.STATE);
    due(x.let(0, -5), 5);
    due(x.kiltTold(0, 6), 5);
    due(x.kiltTold(0, 1), 11);
  }

  private static void letEdges() {
    begin(17);
    Room x = room("a400;", 9999);
    x.kilt(2, 4060, 460, 0);
    x.flaw(0, 5998);
    due(x.lay(0, 0), 7199);
    due(x.laid(0, 4), 2);
    for (int i = 1; i <= 34; i++) due(x.let(0, 20), 300 + 20 * i);
    due(x.let(0, 19), 999);
    due(x.let(0, 1), KiltRoom.STATE);
    due(x.let(0, -20), 979);
    // 1 thread at least, where nothing is lost
    Room y = room("a10;", 400);
    y.kilt(0, 420, 420, 0);
    y.lay(0, 0);
    due(y.let(0, -10), KiltRoom.STATE);
    due(y.let(0, -9), 1);
    // to the next PLEAT, where the under APRON is further away
    y.flaw(0, 124);
    due(y.lay(0, 0), 174);
    due(y.let(0, 11), KiltRoom.STATE);
    due(y.let(0, 10), 20);
  }

  private static void turn() {
    begin(18);
    Room x = room("a10;", 400);
    x.kilt(0, 420, 420, 0);
    due(x.turn(0), KiltRoom.STATE);
    due(x.turn(1), KiltRoom.BAD);
    due(x.turn(-1), KiltRoom.BAD);
    x.lay(0, 0);
    due(x.turn(0), 1);
    due(x.turn(0), 0);
    due(x.turn(0), 1);
    due(x.kiltTold(0, 7), 1);
  }

  private static void faulty(String s, int place) {
    Room x = new Room();
    due(textOf(x, s), -100 - place);
    due(x.count(4), 0);
    due(x.count(3), 1);
  }

  private static void text() {
    begin(19);
    faulty("", 0);
    faulty("  ", 2);
    faulty("fit 1 ;", 0);
    faulty("price", 5);
    faulty("price ;", 6);
    faulty("price 1", 7);
    faulty("price 1 \n", 9);
    faulty("price 1 ; price 1 ;", 10);
    faulty("price 1 ; fit 1", 15);
    faulty("price 1 ; fit 1 ; ;", 18);
    faulty("price 1 ; fit 1 ; !", 18);
    faulty("price 12345 ; fit 1 ;", 6);
    faulty("price 00001 ; fit 1 ;", 6);
    faulty("price useds ; fit 1 ;", 6);
    faulty("price Used ; fit 1 ;", 6);
    faulty("priceused ; fit 1 ;", 0);
    faulty("price 1 2 ; fit 1 ;", 8);
    faulty("price 1 < 2 < 3 ; fit 1 ;", 12);
    faulty("price 1 < 2 = 3 ; fit 1 ;", 12);
    faulty("price 1 + not 2 ; fit 1 ;", 10);
    faulty("price - not 2 ; fit 1 ;", 8);
    faulty("price 1 < not 2 ; fit 1 ;", 10);
    faulty("price (1 ; fit 1 ;", 9);
    faulty("price 1) ; fit 1 ;", 7);
    faulty("price () ; fit 1 ;", 7);
    faulty("price 1 and ; fit 1 ;", 12);
    faulty("price 1 or or 1 ; fit 1 ;", 11);
    faulty("price fit ; fit 1 ;", 6);
    faulty("price * 1 ; fit 1 ;", 6);
    faulty("price 1\t; fit 1 ;", 7);
    faulty("price 1" + (char) 200 + "; fit 1 ;", 7);
    Room x = new Room();
    due(textOf(x, "price used;fit 1;"), 1);
    due(textOf(x, " \nprice\nused\n;\nfit 0000;\n "), 2);
    due(textOf(x, "price1;fit(not 1);"), 3);
    due(textOf(x, "price"), -105);
    due(textOf(x, "price 9999*style-shown<hip=waist;fit 1;"), -126);
    due(textOf(x, "price not not 1 and not 2 or 3;fit 1;"), 4);
    due(textOf(x, "price pleats;fit 1;"), 5);
    due(textOf(x, "price 1;fit 1;"), KiltRoom.FULL);
    due(x.count(4), 14);
    due(textOf(x, "!"), KiltRoom.FULL);
    due(x.count(3), 6);
  }

  private static void textDepth() {
    begin(19);
    faulty("price ((((((1)))))) ; fit 1 ;", 11);
    faulty("price ------1 ; fit 1 ;", 11);
    faulty("price not not not not not not 1 ; fit 1 ;", 26);
    faulty("price (not (-(-(1)))) ; fit 1 ;", 14);
    faulty("price not (not (not (1))) ; fit 1 ;", 20);
    faulty("price 1 ; fit - - ( - - - 1 ) ;", 24);
    Room x = new Room();
    due(textOf(x, "price (((((1))))) ; fit -----1 ;"), 1);
    due(textOf(x, "price not not not not not 1 ; fit (not (not (1))) ;"), 2);
    due(textOf(x, "price -----1*-----1--(((-1))) ; fit ((((-1))))+((((-1)))) ;"), 3);
    due(textOf(x, "price not not not not not 1 and (((((2))))) ; fit 1 ;"), 4);
    due(textOf(x, "price not not not not not 1 < ((((2)))) ; fit 1 ;"), -100 - 30);
    due(textOf(x, "price not not not not 1 < (2) or (((((2))))) ; fit 1 ;"), 5);
  }

  private static void force() {
    begin(20);
    Room x = new Room();
    due(x.force(1), KiltRoom.BAD);
    due(x.force(-1), KiltRoom.BAD);
    due(x.force(0), 0);
    textOf(x, "price 1 ; fit 2 ;");
    due(x.count(5), 0);
    due(x.force(1), 0);
    due(x.count(5), 1);
    due(x.force(0), 1);
    due(x.force(2), KiltRoom.BAD);
    due(x.count(5), 0);
  }

  private static void worth(String e, long want) {
    Room x = room("a10;", 400);
    x.kilt(0, 423, 420, 0);
    x.lay(0, 0);
    x.let(0, 1);
    due(textOf(x, "price " + e + " ; fit not(" + e + ");"), 1);
    x.force(1);
    due(x.says(0, 0), want);
    due(x.says(0, 1), want == 0 ? 1 : 0);
  }

  private static void says() {
    begin(21);
    Room x = room("a10;", 400);
    x.kilt(0, 420, 420, 0);
    x.kilt(0, 421, 420, 0);
    due(x.says(0, 0), KiltRoom.NO);
    x.lay(0, 0);
    x.lay(1, 0);
    due(x.says(0, 0), 154 * 3 + 40);
    due(x.says(0, 1), 0);
    due(x.says(1, 1), 1);
    due(x.says(0, 2), KiltRoom.NO);
    due(x.says(0, -1), KiltRoom.NO);
    due(x.says(2, 0), KiltRoom.NO);
    due(x.says(-1, 0), KiltRoom.NO);
    // used 178, pleats 4, hip 23, waist 20, shown 12, style 0
    worth("used", 178);
    worth("pleats", 4);
    worth("hip", 23);
    worth("waist", 20);
    worth("shown", 12);
    worth("style", 0);
    worth("0099", 99);
    worth("10 - 3 - 2", 5);
    worth("2 + 3 * 4", 14);
    worth("(2 + 3) * 4", 20);
    worth("- 2 * 3", -6);
    worth("2 - - 3", 5);
    worth("1 < 2", 1);
    worth("2 < 2", 0);
    worth("- 3 < 2", 1);
    worth("2 = 2", 1);
    worth("3 = 2", 0);
    worth("not 5", 0);
    worth("not 0 and 7", 1);
    worth("not 1 < 0", 1);
    worth("5 or 0", 1);
    worth("0 or 0", 0);
    worth("5 and 7", 1);
    worth("5 and 0", 0);
    worth("1 or 0 and 0", 1);
    worth("7", 7);
    worth("1 + 1 < 3 and 4 = 2 * 2", 1);
    worth("9999 * 9999 * 9999", 9999 * 9999 * 9999);
    worth("9999 * 9999 * 50", 9999 * 9999 * 50);
    worth("(1 < 2) = 1", 1);
  }

  private static void needs() {
    begin(22);
    Room x = new Room();
    x.kilt(0, 420, 420, 5);
    x.kilt(1, 420, 420, 1);
    x.kilt(0, 4060, 2460, 0);
    x.kilt(1, 420, 420, 0);
    due(x.needs(0), KiltRoom.STATE);
    due(x.needs(4), KiltRoom.BAD);
    settOf(x, "a10;");
    settOf(x, "a1 b1;");
    due(x.needs(0), 154);
    due(x.needs(1), KiltRoom.STATE);
    due(x.needs(3), 164);
    due(x.needs(-1), KiltRoom.BAD);
    x.bolt(0, 100);
    x.flaw(0, 4);
    due(x.needs(0), 154);
    // no STEP can be; or it is longer than any BOLT
    Room y = new Room();
    settOf(y, "a2;");
    y.kilt(1, 420, 420, 0);
    due(y.needs(0), KiltRoom.NONE);
    Room z = new Room();
    settOf(z, "a400;");
    z.kilt(4, 4060, 2460, 0);
    z.kilt(2, 4060, 460, 0);
    due(z.needs(0), KiltRoom.NONE);
    due(z.needs(1), 6399);
  }

  /** KILTS that need 154 each, and some more by 10 for each inch of 10 threads. */
  private static Room bandRoom(int... lengths) {
    Room x = new Room();
    settOf(x, "a10;");
    settOf(x, "b10;");
    for (int length : lengths) x.bolt(length < 0 ? 1 : 0, Math.abs(length));
    for (int k = 0; k < 4; k++) x.kilt(0, 420, 420, 0);
    return x;
  }

  private static void cut(Room x, int bits, int many, int... bolts) {
    due(x.band(bits), many);
    for (int k = 0; k < bolts.length; k++) due(x.from(k), bolts[k]);
  }

  private static void band() {
    begin(23);
    Room none = new Room();
    due(none.band(0), KiltRoom.STATE);
    due(none.band(1), KiltRoom.BAD);
    Room x = bandRoom();
    cut(x, 15, 0, -1, -1, -1, -1);
    due(x.band(16), KiltRoom.BAD);
    due(x.band(-1), KiltRoom.BAD);
    due(x.band(Integer.MIN_VALUE), KiltRoom.BAD);
    cut(bandRoom(307), 15, 1, 0, -1, -1, -1);
    cut(bandRoom(308), 15, 2, 0, 0, -1, -1);
    cut(bandRoom(308), 10, 2, -1, 0, -1, 0);
    cut(bandRoom(308), 0, 0, -1, -1, -1, -1);
    cut(bandRoom(153, 154), 15, 1, 1, -1, -1, -1);
    // BOLTS of other SETTS don't count
    cut(bandRoom(-999, 154), 15, 1, 1, -1, -1, -1);
    // FLAWS don't matter
    Room y = bandRoom(308);
    for (int f = 0; f < 10; f++) y.flaw(0, 30 * f);
    cut(y, 15, 2, 0, 0, -1, -1);
    // a KILT whose STRIPE SETT 0 hasn't
    Room z = bandRoom(999);
    due(z.kilt(1, 420, 420, 1), 4);
    cut(z, 17, 1, 0, -1, -1, -1, -1);
  }

  private static void bandTies() {
    begin(23);
    // the fewest BOLTS, though a lower one has room
    cut(bandRoom(154, 616), 15, 4, 1, 1, 1, 1);
    cut(bandRoom(308, 462), 15, 4, 0, 0, 1, 1);
    cut(bandRoom(154, 154, 308), 7, 3, 0, 2, 2);
    cut(bandRoom(154, 154, 308), 3, 2, 2, 2);
    cut(bandRoom(154, 154, 154, 154), 15, 4, 0, 1, 2, 3);
    cut(bandRoom(616, 616), 15, 4, 0, 0, 0, 0);
    // as many as can be: a long one stays
    Room x = new Room();
    settOf(x, "a10;");
    x.kilt(0, 460, 460, 0);
    x.kilt(0, 420, 420, 0);
    x.kilt(0, 420, 420, 0);
    int needed = x.needs(0);
    due(needed > 308 ? 1 : 0, 1);
    x.bolt(0, needed);
    cut(x, 7, 2, -1, 0, 0);
    cut(x, 3, 1, 0, -1);
  }

  private static void from() {
    begin(24);
    Room x = bandRoom(308);
    due(x.from(0), KiltRoom.NONE);
    due(x.band(3), 2);
    due(x.from(1), 0);
    due(x.from(2), KiltRoom.NONE);
    due(x.from(4), KiltRoom.NONE);
    due(x.from(8), KiltRoom.NONE);
    due(x.from(-1), KiltRoom.NONE);
    due(x.band(16), KiltRoom.BAD);
    due(x.from(1), 0);
    due(x.band(4), 1);
    due(x.from(1), KiltRoom.NONE);
    due(x.from(2), 0);
  }

  private static void count() {
    begin(25);
    Room x = room("a10;", 400);
    x.bolt(0, 400);
    for (int k = 0; k < 3; k++) x.kilt(0, 420, 420, 0);
    x.lay(1, 0);
    x.lay(1, 0);
    x.lay(2, 0);
    for (int t = 0; t < 4; t++) textOf(x, "price 1 ; fit 1 ;");
    x.force(4);
    x.feed(6, 0);
    int[] told = {1, 2, 3, 5, 6, 4, 2};
    for (int what = 0; what < 7; what++) due(x.count(what), told[what]);
    due(x.count(7), KiltRoom.BAD);
    due(x.count(-1), KiltRoom.BAD);
  }

  private static void sheet() {
    begin(26);
    Room x = new Room();
    due(x.sheet(4, 0, 1), KiltRoom.BAD);
    due(x.sheet(-1, 0, 1), KiltRoom.BAD);
    due(x.sheet(0, 3, 1), KiltRoom.BAD);
    due(x.sheet(0, -2, 1), KiltRoom.BAD);
    due(x.sheet(0, 0, 41), KiltRoom.BAD);
    due(x.sheet(0, 0, -1), -14);
    due(x.sheet(0, 3, -1), KiltRoom.BAD);
    due(x.cell(0, 0, 0), -11);
    due(x.sheet(0, 0, 40), 1);
    due(x.cell(0, 39, 0), 1);
    due(x.cell(0, 40, 0), -12);
    due(x.sheet(0, 2, 0), 1);
    due(x.cell(0, 0, 0), -12);
    due(x.sheet(0, -1, -5), 1);
    due(x.cell(0, 0, 0), -11);
    due(x.sheet(3, -1, 99), 1);
    due(x.sheet(3, 1, 1), 1);
    due(x.cell(3, 0, 7), 1);
    due(x.sheet(3, 1, 41), KiltRoom.BAD);
    due(x.cell(3, 0, 7), 1);
    // all 0 again
    settOf(x, "a2;");
    x.bolt(0, 100);
    due(x.sheet(3, 1, 2), 1);
    due(x.flaws(0, 3, 1, 0, 2), 1);
    due(x.flaw(0, 7), 2);
    due(x.flaw(0, 0), KiltRoom.BAD);
  }

  private static void cell() {
    begin(27);
    Room x = new Room();
    settOf(x, "a2;");
    x.bolt(0, 9999);
    due(x.cell(4, 0, 0), KiltRoom.BAD);
    due(x.cell(-1, 0, 0), KiltRoom.BAD);
    due(x.cell(0, -1, 0), -11);
    for (int sort = 0; sort < 3; sort++) {
      due(x.sheet(sort, sort, 3), 1);
      due(x.cell(sort, 0, 0x10000 + 0x1000 + 0x100 + 5 + sort), 1);
      due(x.cell(sort, 1, 200 + sort), 1);
      due(x.cell(sort, 2, -1), 1);
      due(x.cell(sort, 3, 0), -12);
      due(x.cell(sort, -1, 0), -12);
    }
    due(x.flaws(0, 0, 0, 0, 3), 1);
    due(x.flaw(0, 5), KiltRoom.BAD);
    due(x.flaws(0, 1, 1, 0, 3), 2);
    due(x.flaw(0, 0x1100 + 6), KiltRoom.BAD);
    due(x.flaw(0, 201), KiltRoom.BAD);
    due(x.flaws(0, 2, 2, 0, 3), 1);
    due(x.flaw(0, 202), KiltRoom.BAD);
    due(x.flaw(0, 200), 5);
  }

  private static void flaws() {
    begin(28);
    Room x = room("a2;", 100);
    x.sheet(0, 2, 15);
    for (int i = 0; i < 15; i++) x.cell(0, i, 10 + i);
    due(x.flaws(1, 0, 2, 0, 1), KiltRoom.BAD);
    due(x.flaws(0, 4, 2, 0, 1), KiltRoom.BAD);
    due(x.flaws(0, -1, 2, 0, 1), KiltRoom.BAD);
    due(x.flaws(0, 0, 3, 0, 1), KiltRoom.BAD);
    due(x.flaws(0, 0, -1, 0, 1), KiltRoom.BAD);
    due(x.flaws(0, 0, 2, 0, 21), KiltRoom.BAD);
    due(x.flaws(0, 0, 2, 0, -1), KiltRoom.BAD);
    due(x.flaws(0, 0, 0, 0, 0), -13);
    due(x.flaws(0, 0, 1, 99, 1), -13);
    due(x.flaws(0, 1, 2, 0, 0), -11);
    due(x.flaws(0, 1, 0, 99, 1), -11);
    due(x.flaws(0, 0, 2, 15, 1), -12);
    due(x.flaws(0, 0, 2, -1, 2), -12);
    due(x.flaws(0, 0, 2, Integer.MAX_VALUE, 20), -12);
    due(x.flaws(0, 0, 2, Integer.MIN_VALUE, 20), -12);
    due(x.flaws(0, 0, 2, 15, 0), 0);
    // what stood ahead came
    due(x.flaws(0, 0, 2, 13, 3), -12);
    due(x.flaw(0, 23), KiltRoom.BAD);
    due(x.flaw(0, 24), KiltRoom.BAD);
    due(x.flaw(0, 99), 3);
    // no more than 10, others are left out
    due(x.flaws(0, 0, 2, 0, 15), 7);
    due(x.flaw(0, 16), KiltRoom.BAD);
    due(x.flaw(0, 17), KiltRoom.FULL);
    due(x.flaws(0, 0, 2, 0, 15), 0);
    due(x.flaws(0, 0, 2, 0, 20), -12);
  }

  private static void taken() {
    begin(29);
    Room x = new Room();
    for (int style = 0; style < 6; style++) x.kilt(style, 420 + style, 420, 0);
    String[] above = {"0", "10", "20", "310", "420", "5310"};
    for (int style = 0; style < 6; style++) {
      for (int k = 0; k < 6; k++) {
        due(x.taken(style, k), above[style].indexOf('0' + k) < 0 ? -13 : (420 + style - 400) * 4 / 8);
      }
    }
    due(x.taken(0, 6), KiltRoom.BAD);
    due(x.taken(0, -1), KiltRoom.BAD);
    due(x.taken(6, 6), KiltRoom.BAD);
    due(x.taken(6, 0), -11);
    due(x.taken(-1, 0), -11);
  }
}
