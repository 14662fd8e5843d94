/** A KiltRoom whose calls are counted and told: nothing is promised about an object after its 512th call. */
final class Room {
  static final int MOST_CALLS = 512;
  private static String latest = "";
  private final KiltRoom room = new KiltRoom();
  private int calls;

  static String latest() {
    return latest;
  }

  private KiltRoom call(String name, Object... given) {
    StringBuilder told = new StringBuilder(name).append('(');
    for (int i = 0; i < given.length; i++) told.append(i == 0 ? "" : ", ").append(given[i]);
    latest = told.append(')').toString();
    calls++;
    if (calls > MOST_CALLS) throw new IllegalStateException("a test makes more than " + MOST_CALLS + " calls: " + latest);
    return room;
  }

  int calls() {
    return calls;
  }

  // ---- the face

  int feed(int n, long bytes) { return call("feed", n, bytes).feed(n, bytes); }
  int sett() { return call("sett").sett(); }
  int settTold(int sett, int what) { return call("settTold", sett, what).settTold(sett, what); }
  int stripe(int sett, int stripe, int what) { return call("stripe", sett, stripe, what).stripe(sett, stripe, what); }
  int thread(int sett, int x) { return call("thread", sett, x).thread(sett, x); }
  int twill(int sett, int x, int y) { return call("twill", sett, x, y).twill(sett, x, y); }
  int bolt(int sett, int length) { return call("bolt", sett, length).bolt(sett, length); }
  int flaw(int bolt, int x) { return call("flaw", bolt, x).flaw(bolt, x); }
  int kilt(int style, int inches, int pleats, int stripe) {
    return call("kilt", style, inches, pleats, stripe).kilt(style, inches, pleats, stripe);
  }
  int kiltTold(int kilt, int what) { return call("kiltTold", kilt, what).kiltTold(kilt, what); }
  int lay(int kilt, int bolt) { return call("lay", kilt, bolt).lay(kilt, bolt); }
  int laid(int kilt, int what) { return call("laid", kilt, what).laid(kilt, what); }
  int pleat(int kilt, int k, int what) { return call("pleat", kilt, k, what).pleat(kilt, k, what); }
  int shown(int kilt, int i, boolean waist) { return call("shown", kilt, i, waist).shown(kilt, i, waist); }
  int around(int kilt, boolean waist) { return call("around", kilt, waist).around(kilt, waist); }
  int let(int kilt, int d) { return call("let", kilt, d).let(kilt, d); }
  int turn(int kilt) { return call("turn", kilt).turn(kilt); }
  int text() { return call("text").text(); }
  int force(int text) { return call("force", text).force(text); }
  long says(int kilt, int part) { return call("says", kilt, part).says(kilt, part); }
  int needs(int kilt) { return call("needs", kilt).needs(kilt); }
  int band(int kilts) { return call("band", kilts).band(kilts); }
  int from(int kilt) { return call("from", kilt).from(kilt); }
  int count(int what) { return call("count", what).count(what); }
  int sheet(int sheet, int sort, int n) { return call("sheet", sheet, sort, n).sheet(sheet, sort, n); }
  int cell(int sheet, int i, int v) { return call("cell", sheet, i, v).cell(sheet, i, v); }
  int flaws(int bolt, int sheet, int sort, int from, int n) {
    return call("flaws", bolt, sheet, sort, from, n).flaws(bolt, sheet, sort, from, n);
  }
  int taken(int kilt, int k) { return call("taken", kilt, k).taken(kilt, k); }

  // ---- several calls in one

  /** Feeds a text by eights, each sign as its byte. */
  Room tape(String s) {
    for (int at = 0; at < s.length(); at += 8) {
      int n = Math.min(8, s.length() - at);
      long bytes = 0;
      for (int i = n - 1; i >= 0; i--) bytes = bytes << 8 | s.charAt(at + i);
      feed(n, bytes);
    }
    return this;
  }

  int sett(String s) {
    tape(s);
    int answer = sett();
    latest = "sett() of \"" + s + "\"";
    return answer;
  }

  int text(String s) {
    tape(s);
    int answer = text();
    latest = "text() of \"" + s + "\"";
    return answer;
  }

  /** A SHEET of ints that holds these numbers. */
  Room ints(int sheet, int... numbers) {
    sheet(sheet, 2, numbers.length);
    for (int i = 0; i < numbers.length; i++) cell(sheet, i, numbers[i]);
    return this;
  }

  // ---- rooms to begin with

  /** One SETT, and one BOLT of it. */
  static Room of(String sett, int length) {
    Room x = new Room();
    x.sett(sett);
    x.bolt(0, length);
    return x;
  }

  /** As above, with a KILT of 4 PLEATS: v 10, APRON 40, no TAPER. */
  static Room withKilt(String sett, int length, int style) {
    Room x = of(sett, length);
    x.kilt(style, 420, 420, 0);
    return x;
  }

  /** Some of each thing, room for more, and bytes of a SETT on THE TAPE. */
  static Room some() {
    Room x = new Room();
    x.sett("a10 b4;");
    x.sett("c3 d2 e1/");
    x.bolt(0, 400);
    x.bolt(1, 150);
    x.flaw(0, 5);
    x.flaw(0, 310);
    x.kilt(0, 420, 420, 0);
    x.kilt(1, 426, 420, 1);
    x.kilt(5, 430, 520, 1);
    x.lay(0, 0);
    x.lay(2, 0);
    x.let(0, 2);
    x.turn(0);
    x.text("price hip;fit 0;");
    x.force(1);
    x.sheet(0, 1, 4);
    x.cell(0, 0, 33);
    x.cell(0, 1, 71);
    x.cell(0, 2, -1);
    x.cell(0, 3, 999);
    x.sheet(2, 0, 0);
    x.band(3);
    return x.tape("h7 g2;");
  }

  /** As many of each thing as can be, and bytes of a TEXT on THE TAPE. */
  static Room full() {
    Room x = new Room();
    x.sett("a10 b4;");
    x.sett("c3 d2 e1/");
    x.sett("a1;");
    x.sett("b2;");
    x.bolt(0, 400);
    x.bolt(1, 150);
    x.bolt(0, 300);
    x.bolt(2, 100);
    x.flaw(0, 5);
    for (int f = 0; f < 9; f++) x.flaw(0, 305 + f);
    for (int k = 0; k < 8; k++) x.kilt(k % 6, 420 + k, 420, k % 2);
    x.lay(0, 0);
    x.lay(1, 2);
    for (int t = 1; t <= 5; t++) x.text("price " + t + ";fit 1;");
    x.force(5);
    for (int s = 0; s < 4; s++) x.sheet(s, s % 3, 40);
    x.band(255);
    return x.tape("price 7;fit 8;");
  }
}
