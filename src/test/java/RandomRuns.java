import java.util.ArrayList;
import java.util.Arrays;
import java.util.HashMap;
import java.util.List;
import java.util.Map;
import java.util.Random;
import java.util.regex.Matcher;
import java.util.regex.Pattern;

/** Random runs of calls, each answered by KiltRoom and by a second, slow room written otherwise. */
public final class RandomRuns {
  /** No step makes more than DEAREST calls, so a run stays below an object's 512 calls. */
  private static final int RUNS = 2500, MOST_CALLS = 512, DEAREST = 60;
  private static int wrong = 0;
  private static final int[] asked = new int[28];
  private static final int[] granted = new int[28];

  public static void main(String[] args) {
    for (int run = 0; run < RUNS && wrong < 5; run++) {
      new Run(run).go();
    }
    for (int c = 0; c < 28; c++) {
      if (granted[c] < 50) {
        wrong++;
        System.out.println("call " + c + " was granted only " + granted[c] + " times of " + asked[c]);
      }
    }
    System.out.println(wrong == 0 ? "all random runs are as due" : wrong + " random runs are not as due");
    if (wrong != 0) System.exit(1);
  }

  private static final class Run {
    final Random dice;
    final KiltRoom room = new KiltRoom();
    final Slow slow = new Slow();
    final StringBuilder log = new StringBuilder();
    final boolean smallSetts;
    final int run;
    int calls;
    boolean right = true;

    Run(int run) {
      this.run = run;
      dice = new Random(run * 7919L + 5);
      smallSetts = dice.nextInt(3) == 0;
    }

    void go() {
      for (int step = 0; calls + DEAREST <= MOST_CALLS && right; step++) {
        if (step < 12) opening(step); else any();
      }
      if (calls > MOST_CALLS) throw new IllegalStateException(calls + " calls of one object");
    }

    void due(int call, String told, long got, long want) {
      calls++;
      asked[call]++;
      if (want >= 0) granted[call]++;
      log.append(told).append(" -> ").append(want).append('\n');
      if (got != want && right) {
        right = false;
        wrong++;
        System.out.println("run " + run + ": " + told + " answered " + got + ", due is " + want + "\n" + log);
      }
    }

    void opening(int c) {
      if (c < 2) sett(settText());
      else if (c < 4) bolt();
      else if (c < 8) kilt();
      else if (c < 10) lay();
      else flaw();
    }

    int near(int below) {
      int d = dice.nextInt(20);
      if (d == 0) return -1;
      if (d == 1) return below;
      if (d == 2) return dice.nextInt(5) == 0 ? dice.nextInt() : dice.nextInt(below + 3) - 1;
      return dice.nextInt(Math.max(1, below));
    }

    void feedAll(String s) {
      for (int at = 0; at < s.length(); at += 8) {
        int n = Math.min(8, s.length() - at);
        long bytes = 0;
        for (int i = n - 1; i >= 0; i--) bytes = bytes << 8 | s.charAt(at + i);
        feed(n, bytes);
      }
    }

    void feed(int n, long bytes) {
      due(0, "feed(" + n + ", " + bytes + ")", room.feed(n, bytes), slow.feed(n, bytes));
    }

    String settText() {
      StringBuilder s = new StringBuilder();
      int stripes = dice.nextInt(15) == 0 ? 10 + dice.nextInt(2) : 1 + dice.nextInt(5);
      for (int i = 0; i < stripes; i++) {
        if (i > 0) s.append(' ');
        s.append((char) ('a' + dice.nextInt(8))).append(1 + dice.nextInt(smallSetts ? 4 : dice.nextInt(8) == 0 ? 250 : 30));
      }
      s.append(dice.nextBoolean() ? '/' : ';');
      return dice.nextInt(4) == 0 ? spoilt(s.toString(), "abhi019 /;\n") : s.toString();
    }

    String spoilt(String s, String bytes) {
      StringBuilder t = new StringBuilder(s);
      int at = dice.nextInt(t.length() + 1);
      char b = dice.nextInt(12) == 0 ? (char) dice.nextInt(256) : bytes.charAt(dice.nextInt(bytes.length()));
      int how = dice.nextInt(3);
      if (how == 0 || at == t.length()) t.insert(at, b);
      else if (how == 1) t.deleteCharAt(at);
      else t.setCharAt(at, b);
      return t.toString();
    }

    void sett(String s) {
      feedAll(s);
      due(1, "sett()", room.sett(), slow.sett());
    }

    void bolt() {
      int s = near(slow.setts.size());
      int[] lengths = {99, 100, 9999, 10000, 100 + dice.nextInt(9900), 300 + dice.nextInt(2000), 300 + dice.nextInt(1000)};
      int length = lengths[dice.nextInt(7)];
      due(6, "bolt(" + s + ", " + length + ")", room.bolt(s, length), slow.bolt(s, length));
    }

    void flaw() {
      int b = near(slow.bolts.size());
      int x = flawPlace(b);
      due(7, "flaw(" + b + ", " + x + ")", room.flaw(b, x), slow.flaw(b, x));
    }

    int flawPlace(int b) {
      if (b < 0 || b >= slow.bolts.size()) return dice.nextInt(100);
      int length = slow.bolts.get(b).length;
      return dice.nextInt(8) == 0 ? length - 1 + dice.nextInt(2) : dice.nextInt(8) == 0 ? dice.nextInt(3) - 1 : dice.nextInt(Math.min(length, 900));
    }

    void kilt() {
      int style = dice.nextInt(14) == 0 ? dice.nextInt(8) - 1 : dice.nextInt(6);
      int inch = dice.nextInt(3) == 0 ? 3 + dice.nextInt(39) : 4 + dice.nextInt(6);
      int hip = dice.nextInt(12) == 0 ? 18 + dice.nextInt(45) : 20 + dice.nextInt(41);
      int waist = dice.nextInt(12) == 0 ? 19 + dice.nextInt(43) : hip - dice.nextInt(Math.max(1, Math.min(8, hip - 19)));
      int n = dice.nextInt(10) == 0 ? 2 + dice.nextInt(24) : 4 + dice.nextInt(dice.nextInt(3) == 0 ? 12 : 3);
      int stripe = dice.nextInt(10) == 0 ? near(10) : dice.nextInt(3);
      int inches = dice.nextInt(40) == 0 ? -dice.nextInt(5000) : 100 * inch + hip;
      int pleats = dice.nextInt(40) == 0 ? -dice.nextInt(5000) : 100 * n + waist;
      due(8, "kilt(" + style + ", " + inches + ", " + pleats + ", " + stripe + ")",
          room.kilt(style, inches, pleats, stripe), slow.kilt(style, inches, pleats, stripe));
    }

    void lay() {
      int k = near(slow.kilts.size());
      int b = near(slow.bolts.size());
      due(10, "lay(" + k + ", " + b + ")", room.lay(k, b), slow.lay(k, b));
      if (k < 0 || k >= slow.kilts.size()) return;
      for (int what = 0; what < 5; what++) {
        due(11, "laid(" + k + ", " + what + ")", room.laid(k, what), slow.laid(k, what));
      }
      for (int p = 0; p < slow.kilts.get(k).n; p++) {
        for (int what = 0; what < 2; what++) {
          due(12, "pleat(" + k + ", " + p + ", " + what + ")", room.pleat(k, p, what), slow.pleat(k, p, what));
        }
      }
    }

    String expression(int depth) {
      String[] names = {"used", "pleats", "hip", "waist", "shown", "style"};
      String blank = dice.nextInt(8) == 0 ? "\n" : dice.nextInt(9) == 0 ? "  " : " ";
      if (depth <= 0) return dice.nextInt(3) == 0 ? "" + dice.nextInt(dice.nextInt(20) == 0 ? 12000 : 300) : names[dice.nextInt(6)];
      switch (dice.nextInt(12)) {
        case 0: return expression(depth - 1) + blank + "or" + blank + expression(depth - 1);
        case 1: return expression(depth - 1) + blank + "and " + expression(depth - 1);
        case 2: return "not" + blank + expression(depth - 1);
        case 3: return expression(depth - 1) + "<" + blank + expression(depth - 1);
        case 4: return expression(depth - 1) + blank + "=" + expression(depth - 1);
        case 5: return expression(depth - 1) + "+" + expression(depth - 1);
        case 6: return expression(depth - 1) + "-" + expression(depth - 1);
        case 7: return expression(depth - 1) + "*" + blank + expression(depth - 1);
        case 8: return "-" + expression(depth - 1);
        case 9: case 10: return "(" + expression(depth - 1) + ")";
        default: return expression(depth - 2);
      }
    }

    void text() {
      String s = "price " + expression(dice.nextInt(7)) + " ; fit " + expression(dice.nextInt(6)) + ";";
      if (dice.nextInt(5) == 0) s = "price " + "((-not ".charAt(dice.nextInt(2)) + "- - (- (" + (dice.nextBoolean() ? "not " : "-") + "hip))) ; fit 1 ; ";
      for (int i = dice.nextInt(5); i > 3; i--) s = spoilt(s, "abz09()+-*<=; \n!");
      feedAll(s);
      due(17, "text() of " + s, room.text(), slow.text());
    }

    void any() {
      int k = near(slow.kilts.size());
      int b = near(slow.bolts.size());
      int s = near(slow.setts.size());
      boolean waist = dice.nextBoolean();
      switch (dice.nextInt(34)) {
        case 0: int n = dice.nextInt(12) - 1; feed(n, dice.nextLong()); break;
        case 1: sett(settText()); break;
        case 2: int w = near(3); due(2, "settTold(" + s + ", " + w + ")", room.settTold(s, w), slow.settTold(s, w)); break;
        case 3: int p = near(5), v = near(3); due(3, "stripe(" + s + ", " + p + ", " + v + ")", room.stripe(s, p, v), slow.stripe(s, p, v)); break;
        case 4: int x = near(900); due(4, "thread(" + s + ", " + x + ")", room.thread(s, x), slow.thread(s, x)); break;
        case 5: int x1 = near(100000), y1 = near(100000); due(5, "twill(" + s + ", " + x1 + ", " + y1 + ")", room.twill(s, x1, y1), slow.twill(s, x1, y1)); break;
        case 6: bolt(); break;
        case 7: case 8: flaw(); break;
        case 9: kilt(); break;
        case 10: int t = near(11); due(9, "kiltTold(" + k + ", " + t + ")", room.kiltTold(k, t), slow.kiltTold(k, t)); break;
        case 11: case 12: case 13: lay(); break;
        case 14: int l = near(5); due(11, "laid(" + k + ", " + l + ")", room.laid(k, l), slow.laid(k, l)); break;
        case 15: int q = near(8), r = near(4); due(12, "pleat(" + k + ", " + q + ", " + r + ")", room.pleat(k, q, r), slow.pleat(k, q, r)); break;
        case 16: case 17: case 18: int i = near(150); due(13, "shown(" + k + ", " + i + ", " + waist + ")", room.shown(k, i, waist), slow.shown(k, i, waist)); break;
        case 19: due(14, "around(" + k + ", " + waist + ")", room.around(k, waist), slow.around(k, waist)); break;
        case 20: case 21: int d = dice.nextInt(4) == 0 ? dice.nextInt(45) - 22 : dice.nextInt(9) - 4; due(15, "let(" + k + ", " + d + ")", room.let(k, d), slow.let(k, d)); break;
        case 22: due(16, "turn(" + k + ")", room.turn(k), slow.turn(k)); break;
        case 23: case 24: text(); break;
        case 25: int f = near(slow.texts.size()); due(18, "force(" + f + ")", room.force(f), slow.force(f)); break;
        case 26: int part = dice.nextInt(10) == 0 ? dice.nextInt(4) - 1 : dice.nextInt(2); due(19, "says(" + k + ", " + part + ")", room.says(k, part), slow.says(k, part)); break;
        case 27: due(20, "needs(" + k + ")", room.needs(k), slow.needs(k)); break;
        case 28: band(); break;
        case 29: due(22, "from(" + k + ")", room.from(k), slow.from(k)); break;
        case 30: int c = near(7); due(23, "count(" + c + ")", room.count(c), slow.count(c)); break;
        case 31: int sh = near(4), so = dice.nextInt(6) - 2, sz = dice.nextInt(48) - 3; due(24, "sheet(" + sh + ", " + so + ", " + sz + ")", room.sheet(sh, so, sz), slow.sheet(sh, so, sz)); break;
        case 32: cells(b); break;
        default: int style = near(6); due(27, "taken(" + k + ", " + style + ")", room.taken(k, style), slow.taken(k, style)); break;
      }
    }

    void band() {
      int bits = dice.nextInt(10) == 0 ? dice.nextInt(600) - 50 : dice.nextInt(1 << slow.kilts.size());
      due(21, "band(" + bits + ")", room.band(bits), slow.band(bits));
      for (int k = -1; k < 9; k++) due(22, "from(" + k + ")", room.from(k), slow.from(k));
    }

    void cells(int b) {
      int sh = dice.nextInt(4);
      for (int i = dice.nextInt(5); i > 0; i--) {
        int at = dice.nextInt(12) - 1;
        int v = dice.nextInt(4) == 0 ? dice.nextInt() : flawPlace(b);
        due(25, "cell(" + sh + ", " + at + ", " + v + ")", room.cell(sh, at, v), slow.cell(sh, at, v));
      }
      int sort = dice.nextInt(8) == 0 || slow.sheets[sh] == null ? dice.nextInt(5) - 1 : slow.sorts[sh];
      int from = dice.nextInt(9) - 1;
      int n = dice.nextInt(9) == 0 ? dice.nextInt(24) - 1 : dice.nextInt(5);
      int sheet = dice.nextInt(15) == 0 ? near(4) : sh;
      due(26, "flaws(" + b + ", " + sheet + ", " + sort + ", " + from + ", " + n + ")",
          room.flaws(b, sheet, sort, from, n), slow.flaws(b, sheet, sort, from, n));
    }
  }

  /** The document's room once more, without thrift. */
  private static final class Slow {
    static final Pattern SETT = Pattern.compile("[a-h][1-9][0-9]{0,2}( [a-h][1-9][0-9]{0,2}){0,9}[/;]");
    static final Pattern ONE_STRIPE = Pattern.compile("([a-h])([0-9]+)");

    static final class SlowSett {
      final List<Integer> colours = new ArrayList<>(), counts = new ArrayList<>(), warp = new ArrayList<>();
      boolean turns;
      int firstOf(int s) { int at = 0; for (int i = 0; i < s; i++) at += counts.get(i); return at; }
      int centre(int s) { return firstOf(s) + (counts.get(s) - 1) / 2; }
      int colour(int x) { return warp.get(x % warp.size()); }
    }

    static final class SlowBolt {
      SlowSett sett; int number, length;
      final List<Integer> flaws = new ArrayList<>();
      boolean hit(int from, int threads) { return flaws.stream().anyMatch(f -> from <= f && f <= from + threads - 1); }
    }

    static final class SlowKilt {
      int style, inch, hip, n, waist, stripe, v, apron, taper, bolt = -1, widthNow = -1, used, a, u, j, i;
      boolean turned;
      int[] x, m;
      boolean striped() { return style == 1 || style == 3 || style == 5; }
      int loss(int k) { return (k + 1) * taper / n - k * taper / n; }
    }

    final StringBuilder tape = new StringBuilder();
    final List<SlowSett> setts = new ArrayList<>();
    final List<SlowBolt> bolts = new ArrayList<>();
    final List<SlowKilt> kilts = new ArrayList<>();
    final List<String> texts = new ArrayList<>(List.of("price used * 3 + pleats * 10 ; fit waist < hip ;"));
    int rule = 0;
    final int[] from = {-1, -1, -1, -1, -1, -1, -1, -1};
    final int[][] sheets = new int[4][];
    final int[] sorts = new int[4];

    static boolean in(int n, List<?> all) { return n >= 0 && n < all.size(); }

    int feed(int n, long bytes) {
      if (n < 1 || n > 8) return -2;
      if (tape.length() + n > 160) return -4;
      for (int i = 0; i < n; i++) { tape.append((char) (bytes & 255)); bytes >>= 8; }
      return tape.length();
    }

    int sett() {
      if (setts.size() == 4) return -4;
      String s = tape.toString();
      tape.setLength(0);
      for (int end = 1; end <= s.length(); end++) {
        Matcher begun = SETT.matcher(s.substring(0, end));
        if (!begun.matches() && !begun.hitEnd()) return -100 - (end - 1);
      }
      if (!SETT.matcher(s).matches()) return -100 - s.length();
      SlowSett made = new SlowSett();
      Matcher stripe = ONE_STRIPE.matcher(s);
      while (stripe.find()) {
        made.colours.add(stripe.group(1).charAt(0) - 'a');
        made.counts.add(Integer.parseInt(stripe.group(2)));
      }
      made.turns = s.endsWith("/");
      List<Integer> order = new ArrayList<>();
      for (int i = 0; i < made.counts.size(); i++) order.add(i);
      if (made.turns) for (int i = made.counts.size() - 2; i >= 1; i--) order.add(i);
      for (int i : order) for (int c = 0; c < made.counts.get(i); c++) made.warp.add(made.colours.get(i));
      if (made.warp.size() > 400) return -9;
      setts.add(made);
      return setts.size() - 1;
    }

    int settTold(int s, int what) {
      if (!in(s, setts) || what < 0 || what > 2) return -2;
      SlowSett t = setts.get(s);
      return new int[] {t.warp.size(), t.counts.size(), t.turns ? 1 : 0}[what];
    }

    int stripe(int s, int p, int what) {
      if (!in(s, setts) || !in(p, setts.get(s).counts) || what < 0 || what > 2) return -2;
      SlowSett t = setts.get(s);
      return new int[] {t.colours.get(p), t.counts.get(p), t.centre(p)}[what];
    }

    int thread(int s, int x) { return in(s, setts) && x >= 0 ? setts.get(s).colour(x) : -2; }

    int twill(int s, int x, int y) {
      if (!in(s, setts) || x < 0 || y < 0 || x >= 100000 || y >= 100000) return -2;
      int d = (x + y) % 4;
      return setts.get(s).colour(d == 0 || d == 1 ? x : y);
    }

    int bolt(int s, int length) {
      if (!in(s, setts) || length < 100 || length > 9999) return -2;
      if (bolts.size() == 4) return -4;
      SlowBolt b = new SlowBolt();
      b.sett = setts.get(s);
      b.number = s;
      b.length = length;
      bolts.add(b);
      return bolts.size() - 1;
    }

    int flaw(int b, int x) {
      if (!in(b, bolts)) return -2;
      SlowBolt t = bolts.get(b);
      if (x < 0 || x >= t.length || t.flaws.contains(x)) return -2;
      if (t.flaws.size() == 10) return -4;
      t.flaws.add(x);
      return t.flaws.size();
    }

    int kilt(int style, int inches, int pleats, int stripe) {
      if (inches < 0 || pleats < 0) return -2;
      SlowKilt k = new SlowKilt();
      k.style = style;
      k.inch = inches / 100;
      k.hip = inches % 100;
      k.n = pleats / 100;
      k.waist = pleats % 100;
      k.stripe = stripe;
      if (style < 0 || style > 5 || k.inch < 4 || k.inch > 40 || k.hip < 20 || k.hip > 60 || k.n < 4 || k.n > 24
          || k.waist < 20 || k.waist > 60 || k.waist > k.hip || stripe < 0 || stripe > 9) return -2;
      k.v = Math.max(1, k.hip * k.inch / (2 * k.n));
      k.apron = k.hip * k.inch - k.n * k.v;
      k.taper = (k.hip - k.waist) * k.inch / 2;
      if (!(k.taper < k.n * (k.v - 1) + 1)) return -2;
      if (kilts.size() == 8) return -4;
      kilts.add(k);
      return kilts.size() - 1;
    }

    int kiltTold(int kilt, int what) {
      if (!in(kilt, kilts) || what < 0 || what > 10) return -2;
      SlowKilt k = kilts.get(kilt);
      return new int[] {k.style, k.v, k.apron, k.taper, k.n, k.bolt, k.widthNow, k.turned ? 1 : 0, k.inch, k.hip, k.waist}[what];
    }

    static int step(SlowKilt k, int period, int pleat, int m) {
      int plain = k.v + m * period;
      switch (k.style) {
        case 0: return plain;
        case 1: return plain - k.v;
        case 2: return plain + period;
        case 3: return plain - k.v + (m % 2 == 1 ? period : 0);
        case 4: return plain + period + m * period;
        default: return pleat + 1 == k.n - 1 ? plain : plain - k.v + (m % 2 == 1 ? period : 0);
      }
    }

    static int aligned(SlowSett s, int low, int half, int stripe) {
      int t = low;
      while ((t + half) % s.warp.size() != s.centre(stripe) % s.warp.size()) t++;
      return t;
    }

    /** {USED, j, depths, i}, or null. */
    static int[] laying(SlowKilt k, SlowBolt b) {
      int period = b.sett.warp.size();
      int[] best = null;
      Map<Integer, int[]> known = new HashMap<>();
      for (int j = 0; j < 4; j++) {
        int a = aligned(b.sett, 0, k.apron / 2, 0) + j * period;
        if (b.hit(a, k.apron)) continue;
        int x = a + k.apron;
        if (k.striped()) x = aligned(b.sett, x, k.v / 2, k.stripe);
        int[] rest = k.n <= 5 ? allFrom(k, b, 0, x) : bestFrom(k, b, 0, x, known);
        if (rest == null) continue;
        int[] whole = new int[rest.length + 1];
        whole[0] = rest[0];
        whole[1] = j;
        System.arraycopy(rest, 1, whole, 2, rest.length - 1);
        if (best == null || Arrays.compare(whole, best) < 0) best = whole;
      }
      return best;
    }

    static int[] bestFrom(SlowKilt k, SlowBolt b, int pleat, int x, Map<Integer, int[]> known) {
      if (x + k.v + k.apron > b.length) return null;
      int key = pleat * 20000 + x;
      if (known.containsKey(key)) return known.get(key);
      int[] best = null;
      if (!b.hit(x, k.v)) {
        if (pleat == k.n - 1) best = end(k, b, x);
        else for (int m = 1; m <= 4; m++) {
          int step = step(k, b.sett.warp.size(), pleat, m);
          if (step > k.v) best = less(best, bestFrom(k, b, pleat + 1, x + step, known), m);
        }
      }
      known.put(key, best);
      return best;
    }

    /** As bestFrom, but by trying all. */
    static int[] allFrom(SlowKilt k, SlowBolt b, int pleat, int x) {
      if (b.hit(x, k.v)) return null;
      if (pleat == k.n - 1) return end(k, b, x);
      int[] best = null;
      for (int m = 4; m >= 1; m--) {
        int step = step(k, b.sett.warp.size(), pleat, m);
        if (step > k.v) best = less(best, allFrom(k, b, pleat + 1, x + step), m);
      }
      return best;
    }

    static int[] end(SlowKilt k, SlowBolt b, int x) {
      int u = aligned(b.sett, x + k.v, k.apron / 2, 0);
      for (int i = 0; i < 4; i++) {
        int at = u + i * b.sett.warp.size();
        if (!b.hit(at, k.apron) && at + k.apron <= b.length) return new int[] {at + k.apron, i};
      }
      return null;
    }

    static int[] less(int[] best, int[] rest, int m) {
      if (rest == null) return best;
      int[] with = new int[rest.length + 1];
      with[0] = rest[0];
      with[1] = m;
      System.arraycopy(rest, 1, with, 2, rest.length - 1);
      return best == null || Arrays.compare(with, best) < 0 ? with : best;
    }

    int lay(int kilt, int bolt) {
      if (!in(kilt, kilts) || !in(bolt, bolts)) return -2;
      SlowKilt k = kilts.get(kilt);
      SlowBolt b = bolts.get(bolt);
      if (k.striped() && k.stripe >= b.sett.counts.size()) return -2;
      int[] found = laying(k, b);
      if (found == null) return -1;
      int period = b.sett.warp.size();
      k.used = found[0];
      k.u = k.used - k.apron;
      k.j = found[1];
      k.i = found[found.length - 1];
      k.m = Arrays.copyOfRange(found, 2, found.length - 1);
      k.a = aligned(b.sett, 0, k.apron / 2, 0) + k.j * period;
      k.x = new int[k.n];
      k.x[0] = k.striped() ? aligned(b.sett, k.a + k.apron, k.v / 2, k.stripe) : k.a + k.apron;
      for (int p = 1; p < k.n; p++) k.x[p] = k.x[p - 1] + step(k, period, p - 1, k.m[p - 1]);
      k.bolt = bolt;
      k.widthNow = k.v;
      k.turned = false;
      return k.used;
    }

    int laid(int kilt, int what) {
      if (!in(kilt, kilts) || what < 0 || what > 4) return -2;
      SlowKilt k = kilts.get(kilt);
      return k.bolt < 0 ? -3 : new int[] {k.a, k.u, k.used, k.j, k.i}[what];
    }

    int pleat(int kilt, int p, int what) {
      if (!in(kilt, kilts) || p < 0 || p >= kilts.get(kilt).n || what < 0 || what > 3) return -2;
      SlowKilt k = kilts.get(kilt);
      if (what == 2) return k.loss(p);
      if (k.bolt < 0) return -3;
      if (what == 0) return k.x[p];
      if (what == 1) return p == k.n - 1 ? -1 : k.m[p];
      return (p == k.n - 1 ? k.u : k.x[p + 1]) - (k.x[p] + k.widthNow);
    }

    List<Integer> seen(SlowKilt k, boolean waist) {
      List<Integer> all = new ArrayList<>();
      for (int p = 0; p < k.n; p++) {
        int lost = waist ? k.loss(p) : 0;
        for (int t = lost / 2; t < k.widthNow - (lost - lost / 2); t++) all.add(bolts.get(k.bolt).sett.colour(k.x[p] + t));
      }
      if (k.turned) java.util.Collections.reverse(all);
      return all;
    }

    int shown(int kilt, int i, boolean waist) {
      if (!in(kilt, kilts)) return -2;
      SlowKilt k = kilts.get(kilt);
      if (k.bolt < 0) return -3;
      List<Integer> all = seen(k, waist);
      return in(i, all) ? all.get(i) : -1;
    }

    int around(int kilt, boolean waist) {
      if (!in(kilt, kilts)) return -2;
      return kilts.get(kilt).bolt < 0 ? -3 : seen(kilts.get(kilt), waist).size();
    }

    int let(int kilt, int d) {
      if (!in(kilt, kilts) || Math.abs((long) d) > 20) return -2;
      SlowKilt k = kilts.get(kilt);
      if (k.bolt < 0) return -3;
      int w = k.widthNow + d;
      if (w < 1 || w > 999) return -3;
      for (int p = 0; p < k.n; p++) {
        int behind = p == k.n - 1 ? k.u : k.x[p + 1];
        if (w <= k.loss(p) || k.x[p] + w > behind || bolts.get(k.bolt).hit(k.x[p], w)) return -3;
      }
      return k.widthNow = w;
    }

    int turn(int kilt) {
      if (!in(kilt, kilts)) return -2;
      SlowKilt k = kilts.get(kilt);
      if (k.bolt < 0) return -3;
      k.turned ^= true;
      return k.turned ? 1 : 0;
    }

    int text() {
      if (texts.size() == 6) return -4;
      String s = tape.toString();
      tape.setLength(0);
      int fault = new Yard(s, null).fault;
      if (fault >= 0) return -100 - fault;
      texts.add(s);
      return texts.size() - 1;
    }

    int force(int text) {
      if (!in(text, texts)) return -2;
      int was = rule;
      rule = text;
      return was;
    }

    long says(int kilt, int part) {
      if (!in(kilt, kilts) || part < 0 || part > 1 || kilts.get(kilt).bolt < 0) return -4611686018427387904L;
      return new Yard(texts.get(rule), kilts.get(kilt)).worth[part];
    }

    SlowBolt whole() {
      SlowBolt b = new SlowBolt();
      b.sett = setts.get(0);
      b.length = 9999;
      return b;
    }

    int needs(int kilt) {
      if (!in(kilt, kilts)) return -2;
      SlowKilt k = kilts.get(kilt);
      if (setts.isEmpty() || k.striped() && k.stripe >= setts.get(0).counts.size()) return -3;
      int[] found = laying(k, whole());
      return found == null ? -1 : found[0];
    }

    int band(int bits) {
      if (bits < 0 || bits >> kilts.size() != 0) return -2;
      if (setts.isEmpty()) return -3;
      int[] need = new int[8];
      for (int k = 0; k < 8; k++) need[k] = (bits >> k & 1) == 1 ? needs(k) : -1;
      int[] best = null;
      int[] digits = new int[8];
      for (int k = 0; k < 8; k++) digits[k] = need[k] < 0 ? 4 : 0;
      do {
        int[] left = new int[4];
        for (int b = 0; b < bolts.size(); b++) left[b] = bolts.get(b).number == 0 ? bolts.get(b).length : -1;
        int cut = 0, used = 0;
        boolean can = true;
        for (int k = 0; k < 8 && can; k++) {
          if (digits[k] == 4) continue;
          if (need[k] < 0 || digits[k] >= bolts.size() || left[digits[k]] < need[k]) { can = false; break; }
          left[digits[k]] -= need[k];
          cut++;
          used |= 1 << digits[k];
        }
        if (can) {
          int[] told = new int[10];
          told[0] = -cut;
          told[1] = Integer.bitCount(used);
          System.arraycopy(digits, 0, told, 2, 8);
          if (best == null || Arrays.compare(told, best) < 0) best = told;
        }
      } while (nextDigits(digits, need));
      for (int k = 0; k < 8; k++) from[k] = best[k + 2] == 4 ? -1 : best[k + 2];
      return -best[0];
    }

    static boolean nextDigits(int[] digits, int[] need) {
      for (int k = 7; k >= 0; k--) {
        if (need[k] < 0) continue;
        if (digits[k] < 4) { digits[k]++; return true; }
        digits[k] = 0;
      }
      return false;
    }

    int from(int kilt) { return kilt < 0 || kilt > 7 ? -1 : from[kilt]; }

    int count(int what) {
      int laid = (int) kilts.stream().filter(k -> k.bolt >= 0).count();
      int[] all = {setts.size(), bolts.size(), kilts.size(), texts.size(), tape.length(), rule, laid};
      return what < 0 || what >= all.length ? -2 : all[what];
    }

    int sheet(int sheet, int sort, int n) {
      if (sheet < 0 || sheet > 3 || sort < -1 || sort > 2 || sort >= 0 && n > 40) return -2;
      if (sort >= 0 && n < 0) return -14;
      sheets[sheet] = sort < 0 ? null : new int[n];
      sorts[sheet] = sort;
      return 1;
    }

    int cell(int sheet, int i, int v) {
      if (sheet < 0 || sheet > 3) return -2;
      if (sheets[sheet] == null) return -11;
      if (i < 0 || i >= sheets[sheet].length) return -12;
      sheets[sheet][i] = sorts[sheet] == 0 ? v << 24 >> 24 : sorts[sheet] == 1 ? v << 16 >> 16 : v;
      return 1;
    }

    int flaws(int bolt, int sheet, int sort, int from, int n) {
      if (!in(bolt, bolts) || sheet < 0 || sheet > 3 || sort < 0 || sort > 2 || n < 0 || n > 20) return -2;
      if (sheets[sheet] == null) return -11;
      if (sorts[sheet] != sort) return -13;
      int came = 0;
      for (long i = from; i < (long) from + n; i++) {
        if (i < 0 || i >= sheets[sheet].length) return -12;
        if (flaw(bolt, sheets[sheet][(int) i]) >= 0) came++;
      }
      return came;
    }

    int taken(int kilt, int k) {
      if (k < 0 || k > 5) return -2;
      if (!in(kilt, kilts)) return -11;
      String[] ups = {"0", "10", "20", "310", "420", "5310"};
      return ups[kilts.get(kilt).style].indexOf('0' + k) >= 0 ? kilts.get(kilt).v : -13;
    }
  }

  /** Reads a TEXT by what may stand next and a pile of open things, and reckons it on the way. */
  private static final class Yard {
    static final Pattern TOKEN = Pattern.compile("[a-z]+|[0-9]+|[()+\\-*<=;]");
    final List<Integer> piled = new ArrayList<>();
    final List<String> joins = new ArrayList<>();
    final int[] worth = new int[2];
    int fault = -1;

    Yard(String s, Slow.SlowKilt k) {
      int at = 0;
      int stage = 0; // 0 price, 1 E, 2 fit, 3 E, 4 the end
      boolean wantsOne = true, mayDeny = true;
      List<Boolean> compared = new ArrayList<>();
      Matcher m = TOKEN.matcher(s);
      while (true) {
        while (at < s.length() && (s.charAt(at) == ' ' || s.charAt(at) == '\n')) at++;
        if (at == s.length()) { if (stage != 4) fault = at; return; }
        m.region(at, s.length());
        if (!m.lookingAt()) { fault = at; return; }
        String t = m.group();
        boolean good;
        if (stage == 0 || stage == 2) {
          good = t.equals(stage == 0 ? "price" : "fit");
          stage++;
          wantsOne = true; mayDeny = true;
          compared.clear();
          compared.add(false);
        } else if (stage == 4) {
          good = false;
        } else if (wantsOne) {
          long open = joins.stream().filter(j -> j.equals("(") || j.equals("not") || j.equals("neg")).count();
          good = true;
          if (t.equals("(") || t.equals("not") && mayDeny || t.equals("-")) {
            good = open < 5;
            joins.add(t.equals("-") ? "neg" : t);
            if (t.equals("(")) compared.add(false);
            mayDeny = !t.equals("-");
          } else if (Character.isDigit(t.charAt(0)) && t.length() <= 4) {
            piled.add(Integer.parseInt(t));
            wantsOne = false;
          } else if (List.of("used", "pleats", "hip", "waist", "shown", "style").contains(t)) {
            piled.add(k == null ? 1 : new int[] {k.used, k.n, k.hip, k.waist, k.widthNow, k.style}
                [List.of("used", "pleats", "hip", "waist", "shown", "style").indexOf(t)]);
            wantsOne = false;
          } else good = false;
          if (!wantsOne) unpile(7);
        } else if (t.equals(")")) {
          good = joins.contains("(");
          if (good) {
            unpile(1);
            joins.remove(joins.size() - 1);
            compared.remove(compared.size() - 1);
            unpile(7);
          }
        } else if (t.equals(";")) {
          good = !joins.contains("(");
          if (good) {
            unpile(1);
            worth[stage / 2] = piled.remove(piled.size() - 1);
            stage++;
          }
        } else {
          int level = level(t);
          int last = compared.size() - 1;
          good = level >= 1 && level < 7 && !t.equals("not") && !(level == 4 && compared.get(last));
          if (good) {
            if (level == 4) compared.set(last, true);
            if (level <= 2) compared.set(last, false);
            unpile(level);
            joins.add(t);
            wantsOne = true;
            mayDeny = level <= 2;
          }
        }
        if (!good) { fault = at; return; }
        at = m.end();
      }
    }

    static int level(String t) {
      switch (t) {
        case "or": return 1;
        case "and": return 2;
        case "not": return 3;
        case "<": case "=": return 4;
        case "+": case "-": return 5;
        case "*": return 6;
        case "neg": return 7;
        default: return 0;
      }
    }

    void unpile(int level) {
      while (!joins.isEmpty() && level(joins.get(joins.size() - 1)) >= level) {
        String j = joins.remove(joins.size() - 1);
        int r = piled.remove(piled.size() - 1);
        if (j.equals("not")) { piled.add(r == 0 ? 1 : 0); continue; }
        if (j.equals("neg")) { piled.add(0 - r); continue; }
        int l = piled.remove(piled.size() - 1);
        switch (j) {
          case "or": piled.add((l != 0) | (r != 0) ? 1 : 0); break;
          case "and": piled.add((l != 0) & (r != 0) ? 1 : 0); break;
          case "<": piled.add(l < r ? 1 : 0); break;
          case "=": piled.add(l == r ? 1 : 0); break;
          case "+": piled.add(l + r); break;
          case "-": piled.add(l - r); break;
          default: piled.add(l * r);
        }
      }
    }
  }
}
