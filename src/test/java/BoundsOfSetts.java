/** The bounds of promises 1 to 7: a new object, THE TAPE, SETTS, STRIPES, THREADS and TWILL. */
public final class BoundsOfSetts {
  private static final int BAD = Check.BAD, FULL = Check.FULL, NONE = Check.NONE, MIN = Check.MIN, MAX = Check.MAX;
  private static final int TOO_LONG = -9;
  private static final String TEN = "a1 b1 c1 d1 e1 f1 g1 h1 a1 b1";
  private static final String LONGEST = "a999 b999 c999 d999 e999 f999 g999 h999 a999 b999";

  public static void main(String[] args) {
    nothingAtFirst();
    ruleAtFirst();
    sheetsMissingAtFirst();
    objectsApart();
    lastOfTheCalls();

    feedBytes();
    feedLowestFirst();
    feedLowestOnly();
    feedTellsHowMany();
    feedFull();
    feedBadAheadOfFull();
    feedAfterEmptied();

    settsAtMost();
    settStripesAtLeast();
    settStripesAtMost();
    settBlankBetween();
    settOneBlankAlone();
    settNoBlankBehindTheLast();
    settEndsBySign();
    settNothingBehind();
    settLetters();
    settCountDigits();
    settCountWithoutZero();
    settFaultAtTheEnd();
    settFirstFault();
    settPeriodAtMost();
    settPeriodTurnedAtMost();
    settPeriodFarAbove();
    settFaultAheadOfPeriod();
    settTapeEmptied();
    settNoneComes();
    settFullChangesNothing();
    settFullAheadOfFault();
    settFullAheadOfPeriod();

    periods();
    settToldRefuses();
    stripeTold();
    stripeCentres();
    stripeRefuses();
    threadRepeats();
    threadTurnsBack();
    threadTurnsBackWithFew();
    threadFarOut();
    threadRefuses();
    twillModuloFour();
    twillAtMost();
    twillRefuses();
    Check.end("BoundsOfSetts");
  }

  private static void due(long got, long want) {
    Check.due(got, want);
  }

  private static void fault(String tape, int place) {
    Room x = new Room();
    due(x.sett(tape), -100 - place);
    due(x.count(0), 0);
    due(x.count(4), 0);
  }

  private static void period(String tape, int period) {
    Room x = new Room();
    due(x.sett(tape), period > 400 ? TOO_LONG : 0);
    if (period <= 400) due(x.settTold(0, 0), period);
  }

  // ---- promise 1

  private static void nothingAtFirst() {
    Check.sentence(1, "No SETTS, BOLTS, KILTS.");
    Room x = new Room();
    for (int what = 0; what < 7; what++) due(x.count(what), what == 3 ? 1 : 0);
    due(x.settTold(0, 0), BAD);
    due(x.thread(0, 0), BAD);
    due(x.bolt(0, 100), BAD);
    due(x.flaw(0, 0), BAD);
    due(x.kiltTold(0, 0), BAD);
    due(x.lay(0, 0), BAD);
    due(x.needs(0), BAD);
    due(x.taken(0, 0), Check.NOTHING);
    for (int k = 0; k < 8; k++) due(x.from(k), NONE);
    due(x.sett(), -100);
    due(x.text(), -100);
  }

  private static void ruleAtFirst() {
    Check.sentence(1, "TEXT 0, at first, and THE RULE, is: price used * 3 + pleats * 10 ; fit waist < hip ;");
    Room x = Room.withKilt("a10;", 154, 0);
    due(x.lay(0, 0), 154);
    due(x.says(0, 0), 154 * 3 + 4 * 10);
    due(x.says(0, 1), 0);
    due(x.force(0), 0);
    due(x.says(0, 0), 154 * 3 + 4 * 10);
    due(x.kilt(0, 421, 420, 0), 1);
    due(x.bolt(0, 999), 1);
    x.lay(1, 1);
    due(x.says(1, 1), 1);
  }

  private static void sheetsMissingAtFirst() {
    Check.sentence(1, "SHEETS 0 .. 3 are .. missing (as all are at first)");
    Room x = new Room();
    for (int s = 0; s < 4; s++) due(x.cell(s, 0, 0), Check.NOTHING);
  }

  private static void objectsApart() {
    Check.sentence(1, "KiltRoom(): No SETTS, BOLTS, KILTS. (beside another object that has some)");
    Room.full();
    Room x = new Room();
    due(x.count(0), 0);
    due(x.count(4), 0);
    due(x.from(0), NONE);
    due(x.cell(0, 0, 0), Check.NOTHING);
  }

  private static void lastOfTheCalls() {
    Check.sentence(1, "An object is used for at most 512 calls");
    Room x = Room.withKilt("a10;", 400, 0);
    due(x.lay(0, 0), 154);
    while (x.calls() < Room.MOST_CALLS - 2) due(x.turn(0), x.calls() % 2 == 0 ? 1 : 0);
    due(x.lay(0, 0), 154);
    due(x.kiltTold(0, 7), 0);
    due(x.calls(), 512);
  }

  // ---- promise 2

  private static void feedBytes() {
    Check.sentence(2, "BAD: n is not 1 .. 8.");
    for (int n : new int[] {0, 9, -1, -8, 16, MIN, MAX}) Check.refused(BAD, Room::some, x -> x.feed(n, 'a'));
    due(new Room().feed(1, 'a'), 1);
    due(new Room().feed(8, 'a'), 8);
  }

  private static void feedLowestFirst() {
    Check.sentence(2, "The n lowest bytes of a number, the lowest first, come behind THE TAPE");
    Room x = new Room();
    due(x.feed(2, '2' << 8 | 'b'), 2);
    due(x.feed(8, 0x2F33632031632034L), 10);
    due(x.sett(), 0);
    int[] counts = {24, 1, 3};
    for (int s = 0; s < 3; s++) due(x.stripe(0, s, 1), counts[s]);
    due(x.settTold(0, 2), 1);
  }

  private static void feedLowestOnly() {
    Check.sentence(2, "The n lowest bytes of a number .. come behind THE TAPE (the others don't, and all 8 bits of each do)");
    Room x = new Room();
    x.feed(3, 0xFFFFFFFFFF000000L | ';' << 16 | '7' << 8 | 'a');
    due(x.sett(), 0);
    due(x.stripe(0, 0, 1), 7);
    x.feed(2, '7' << 8 | 'a');
    x.feed(1, -1L << 8 | ';');
    due(x.sett(), 1);
    x.feed(3, (';' | 128) << 16 | '7' << 8 | 'a');
    due(x.sett(), -102);
    x.feed(8, 0x80L << 56 | 0x3B313B313BL << 16 | '1' << 8 | 'a');
    due(x.sett(), -103);
    due(x.feed(8, -1L), 8);
    due(x.sett(), -100);
    due(x.feed(8, Long.MIN_VALUE), 8);
  }

  private static void feedTellsHowMany() {
    Check.sentence(2, "how many it has");
    Room x = new Room();
    int has = 0;
    for (int n = 1; n <= 8; n++) {
      has += n;
      due(x.feed(n, 0), has);
      due(x.count(4), has);
    }
  }

  private static void feedFull() {
    Check.sentence(2, "FULL. (THE TAPE: 160 bytes at most)");
    for (int n = 1; n <= 8; n++) {
      int more = n;
      Room x = tapeOf(160 - n);
      due(x.feed(n, 0), 160);
      due(x.feed(1, 0), FULL);
      due(x.feed(8, 0), FULL);
      due(x.count(4), 160);
      Check.refused(FULL, () -> tapeOf(161 - more), y -> y.feed(more, 0x6161616161616161L));
    }
  }

  private static Room tapeOf(int size) {
    Room x = new Room();
    x.tape("price 1;fit 0;" + " ".repeat(size - 14));
    return x;
  }

  private static void feedBadAheadOfFull() {
    Check.sentence(2, "BAD: n is not 1 .. 8. FULL.");
    Check.refused(BAD, () -> tapeOf(160), x -> x.feed(0, 0));
    Check.refused(BAD, () -> tapeOf(160), x -> x.feed(9, 0));
    Check.refused(FULL, () -> tapeOf(160), x -> x.feed(8, 0));
  }

  private static void feedAfterEmptied() {
    Check.sentence(2, "how many it has (anew, when it was emptied)");
    Room x = tapeOf(160);
    due(x.text(), 1);
    due(x.feed(1, 'a'), 1);
    for (int i = 1; i <= 19; i++) due(x.feed(8, 0), 1 + 8 * i);
    due(x.feed(7, 0), 160);
  }

  // ---- promise 3

  private static void settsAtMost() {
    Check.sentence(3, "SETTS (4 at most, numbered from 0)");
    Room x = new Room();
    for (int s = 0; s < 4; s++) due(x.sett("a" + (s + 1) + ";"), s);
    due(x.sett("a5;"), FULL);
    due(x.count(0), 4);
    for (int s = 0; s < 4; s++) due(x.settTold(s, 0), s + 1);
    due(x.settTold(4, 0), BAD);
  }

  private static void settStripesAtLeast() {
    Check.sentence(3, "STRIPES, 1 to 10 (none is too few)");
    fault("", 0);
    fault(";", 0);
    fault("/", 0);
    fault(" ", 0);
    fault(" a1;", 0);
    period("a1;", 1);
    period("a1/", 1);
  }

  private static void settStripesAtMost() {
    Check.sentence(3, "STRIPES, 1 to 10");
    period(TEN + ";", 10);
    period(TEN + "/", 18);
    fault(TEN + " c1;", 29);
    fault(TEN + " c1/", 29);
    fault(TEN + " ", 29);
    fault(TEN, 29);
    period(TEN.substring(0, 26) + ";", 9);
  }

  private static void settBlankBetween() {
    Check.sentence(3, "a blank between two of them");
    period("a5 b3;", 8);
    fault("a5b3;", 2);
    fault("a5,b3;", 2);
    for (char b : new char[] {9, 10, 13, 31, 33, 160, 0}) fault("a5" + b + "b3;", 2);
  }

  private static void settOneBlankAlone() {
    Check.sentence(3, "a blank between two of them (not two)");
    fault("a5  b3;", 3);
    fault("a5 b3  c1;", 6);
    fault("a 5;", 1);
    fault("a5 b 3;", 4);
  }

  private static void settNoBlankBehindTheLast() {
    Check.sentence(3, "then / or ; behind the last one (no blank there)");
    fault("a5 ;", 3);
    fault("a5 /", 3);
    fault("a5 b3 ;", 6);
    fault(TEN + " ;", 29);
  }

  private static void settEndsBySign() {
    Check.sentence(3, "then / or ; behind the last one");
    for (int b = 0; b < 256; b++) {
      boolean digit = b >= '0' && b <= '9';
      if (b == ';' || b == '/') due(new Room().sett("a5" + (char) b), 0);
      else fault("a5" + (char) b, digit || b == ' ' ? 3 : 2);
    }
  }

  private static void settNothingBehind() {
    Check.sentence(3, "THE TAPE .. is a SETT (whole: nothing stands behind its sign)");
    fault("a5;;", 3);
    fault("a5//", 3);
    fault("a5/;", 3);
    fault("a5/ ", 3);
    fault("a5;\n", 3);
    fault("a5; b3;", 3);
    fault("a5;" + (char) 0, 3);
    fault(TEN + ";;", 30);
    fault(LONGEST + ";;", 50);
    fault("a5;" + " ".repeat(157), 3);
  }

  private static void settLetters() {
    Check.sentence(3, "A STRIPE is a letter a .. h (COLOURS 0 .. 7)");
    for (int b = 0; b < 256; b++) {
      if (b >= 'a' && b <= 'h') {
        Room x = new Room();
        due(x.sett((char) b + "5 " + (char) b + "4;"), 0);
        due(x.stripe(0, 0, 0), b - 'a');
        due(x.stripe(0, 1, 0), b - 'a');
        due(x.thread(0, 0), b - 'a');
      } else {
        fault((char) b + "5;", 0);
        fault("a5 " + (char) b + "5;", 3);
      }
    }
  }

  private static void settCountDigits() {
    Check.sentence(3, "a COUNT, 1 to 3 digits");
    fault("a;", 1);
    fault("a/", 1);
    fault("a b3;", 1);
    period("a1;", 1);
    period("a9;", 9);
    period("a10;", 10);
    period("a99;", 99);
    period("a100;", 100);
    fault("a1000;", 4);
    fault("a1111", 4);
    fault("b2 a1000;", 7);
    period("a999;", 999);
    for (int b = 0; b < 256; b++) {
      if (b >= '1' && b <= '9') period("a" + (char) b + ";", b - '0');
      else fault("a" + (char) b + ";", 1);
      if (b >= '0' && b <= '9') period("a1" + (char) b + ";", 10 + b - '0');
      if (b >= '0' && b <= '9') period("a12" + (char) b + ";", 120 + b - '0');
      if (b >= '0' && b <= '9') fault("a123" + (char) b + ";", 4);
    }
  }

  private static void settCountWithoutZero() {
    Check.sentence(3, "digits without a 0 ahead");
    fault("a0;", 1);
    fault("a01;", 1);
    fault("a001;", 1);
    fault("a5 b0;", 4);
    fault("a5 b05/", 4);
    period("a101;", 101);
    period("a20;", 20);
    period("a200;", 200);
  }

  private static void settFaultAtTheEnd() {
    Check.sentence(3, "the size of THE TAPE, if it ends too early");
    String whole = "a5 b30 c200 d1/";
    for (int size = 0; size < whole.length(); size++) fault(whole.substring(0, size), size);
    period(whole, 5 + 60 + 400 + 1);
    fault(LONGEST, 49);
    fault(TEN, 29);
  }

  private static void settFirstFault() {
    Check.sentence(3, "The FAULT is the place of the first byte with which no SETT begins so");
    fault("a5 b03 i4 ;", 4);
    fault("x5 y0  ;", 0);
    fault("a1234 b0;", 4);
    String whole = "a5 b30 c20/";
    for (int at = 0; at < whole.length(); at++) fault(whole.substring(0, at) + "!" + whole.substring(at + 1), at);
    fault("!".repeat(160), 0);
  }

  private static void settPeriodAtMost() {
    Check.sentence(3, "-9: its PERIOD is above 400 (REPEATED)");
    period("a400;", 400);
    period("a401;", 401);
    period("a134 b133 c133;", 400);
    period("a134 b134 c133;", 401);
    period("a40 b40 c40 d40 e40 f40 g40 h40 a40 b40;", 400);
    period("a40 b40 c40 d40 e40 f40 g40 h40 a40 b41;", 401);
    period("a399;", 399);
  }

  private static void settPeriodTurnedAtMost() {
    Check.sentence(3, "-9: its PERIOD is above 400 (it TURNS BACK)");
    period("a400/", 400);
    period("a401/", 401);
    period("a200 b200/", 400);
    period("a200 b201/", 401);
    period("a100 b100 c100/", 400);
    period("a100 b100 c101/", 401);
    period("a101 b100 c100/", 401);
    period("a1 b199 c1/", 400);
    period("a1 b200 c1/", 402);
    period("a100 b101 c100/", 402);
  }

  private static void settPeriodFarAbove() {
    Check.sentence(3, "-9: its PERIOD is above 400 (the greatest)");
    period(LONGEST + ";", 9990);
    period(LONGEST + "/", 17982);
    period("a999;", 999);
  }

  private static void settFaultAheadOfPeriod() {
    Check.sentence(3, "-100 less the place of its FAULT; -9: its PERIOD is above 400");
    fault("a999", 4);
    fault("a999 b999;;", 10);
    fault("a999 b999 c0;", 11);
  }

  private static void settTapeEmptied() {
    Check.sentence(3, "THE TAPE, which is empty then (by a FAULT, too)");
    Room x = new Room();
    for (String tape : new String[] {"a5;", "a5 b", "a401;", "", "!"}) {
      x.sett(tape);
      due(x.count(4), 0);
      due(x.sett(), -100);
      due(x.feed(1, 'a'), 1);
      due(x.sett(), -101);
    }
  }

  private static void settNoneComes() {
    Check.sentence(3, "-9: .. (none comes), nor by a FAULT");
    Room x = new Room();
    due(x.sett("a401;"), TOO_LONG);
    due(x.count(0), 0);
    due(x.settTold(0, 0), BAD);
    due(x.bolt(0, 100), BAD);
    due(x.needs(0), BAD);
    due(x.band(0), Check.STATE);
    due(x.sett("a40"), -103);
    due(x.count(0), 0);
    due(x.band(0), Check.STATE);
    due(x.sett("b2;"), 0);
    due(x.sett("c402;"), TOO_LONG);
    due(x.sett("d3;"), 1);
    due(x.thread(1, 0), 3);
    due(x.thread(0, 0), 1);
    due(x.stripe(0, 0, 1), 2);
  }

  private static void settFullChangesNothing() {
    Check.sentence(3, "FULL: 4 SETTS (THE TAPE stays).");
    Check.refused(FULL, () -> fourSetts().tape("a5 b3/"), Room::sett);
    Check.refused(FULL, () -> fourSetts().tape("a400;"), Room::sett);
    Room x = fourSetts().tape("a5;");
    due(x.sett(), FULL);
    due(x.count(4), 3);
    due(x.feed(1, '5'), 4);
    due(x.text(), -100);
  }

  private static Room fourSetts() {
    Room x = new Room();
    for (int s = 0; s < 4; s++) x.sett("a" + (s + 1) + ";");
    return x;
  }

  private static void settFullAheadOfFault() {
    Check.sentence(3, "FULL: 4 SETTS (THE TAPE stays). (so it is a refusal, which a FAULT, that empties it, is not)");
    for (String tape : new String[] {"", "a5 ", "!", "a5;;"}) Check.refused(FULL, () -> fourSetts().tape(tape), Room::sett);
    Room x = fourSetts();
    due(x.sett("a5 "), FULL);
    due(x.count(4), 3);
    due(x.text(), -100);
    due(x.count(4), 0);
  }

  private static void settFullAheadOfPeriod() {
    Check.sentence(3, "FULL: 4 SETTS (THE TAPE stays). (likewise ahead of -9)");
    Check.refused(FULL, () -> fourSetts().tape("a401;"), Room::sett);
  }

  // ---- promises 4 and 5

  private static void periods() {
    Check.sentence(4, "Of a SETT: 0 PERIOD, 1 how many STRIPES, 2 whether it TURNS BACK (1, 0).");
    Room x = new Room();
    x.sett("a7/");
    x.sett("a7 b2/");
    x.sett("a7 b2 c5/");
    x.sett("a7 b2 c5 d3;");
    int[][] told = {{7, 1, 1}, {9, 2, 1}, {16, 3, 1}, {17, 4, 0}};
    for (int s = 0; s < 4; s++) for (int what = 0; what < 3; what++) due(x.settTold(s, what), told[s][what]);
    Room y = new Room();
    y.sett(TEN + "/");
    int[] ten = {18, 10, 1};
    for (int what = 0; what < 3; what++) due(y.settTold(0, what), ten[what]);
  }

  private static void settToldRefuses() {
    Check.sentence(4, "BAD. (no such SETT, no such thing of it)");
    for (int s : new int[] {-1, 2, 3, 4, MIN, MAX}) Check.refused(BAD, Room::some, x -> x.settTold(s, 0));
    for (int what : new int[] {-1, 3, MIN, MAX}) Check.refused(BAD, Room::some, x -> x.settTold(1, what));
    Check.refused(BAD, Room::full, x -> x.settTold(4, 0));
    due(Room.full().settTold(3, 2), 0);
    due(new Room().settTold(0, 0), BAD);
  }

  private static void stripeTold() {
    Check.sentence(5, "Of a STRIPE: 0 COLOUR, 1 COUNT, 2 CENTRE.");
    Room x = new Room();
    x.sett("h1 a2 g30 b100/");
    int[][] told = {{7, 1, 0}, {0, 2, 1}, {6, 30, 17}, {1, 100, 82}};
    for (int s = 0; s < 4; s++) for (int what = 0; what < 3; what++) due(x.stripe(0, s, what), told[s][what]);
    Room y = new Room();
    y.sett(TEN + ";");
    due(y.stripe(0, 9, 0), 1);
    due(y.stripe(0, 9, 1), 1);
    due(y.stripe(0, 9, 2), 9);
  }

  private static void stripeCentres() {
    Check.sentence(5, "CENTRE .. the place of its first thread, and ((its COUNT less 1) by 2, cut)");
    int[][] centres = {{1, 0}, {2, 0}, {3, 1}, {4, 1}, {5, 2}, {399, 199}, {400, 199}};
    for (int[] c : centres) {
      Room x = new Room();
      x.sett("a" + c[0] + ";");
      due(x.stripe(0, 0, 2), c[1]);
      if (c[0] > 200) continue;
      x.sett("a3 b" + c[0] + " c7/");
      due(x.stripe(1, 1, 2), 3 + c[1]);
    }
  }

  private static void stripeRefuses() {
    Check.sentence(5, "BAD. (no such SETT, STRIPE, thing of it)");
    for (int s : new int[] {-1, 2, 4, MIN, MAX}) Check.refused(BAD, Room::some, x -> x.stripe(s, 0, 0));
    for (int t : new int[] {-1, 3, 9, 10, MIN, MAX}) Check.refused(BAD, Room::some, x -> x.stripe(1, t, 0));
    for (int what : new int[] {-1, 3, MIN, MAX}) Check.refused(BAD, Room::some, x -> x.stripe(1, 2, what));
    due(Room.some().stripe(1, 2, 1), 1);
    due(Room.some().stripe(0, 2, 1), BAD);
    Room x = new Room();
    x.sett(TEN + ";");
    due(x.stripe(0, 10, 0), BAD);
  }

  // ---- promises 6 and 7

  private static void threads(String sett, String period) {
    Room x = new Room();
    due(x.sett(sett), 0);
    due(x.settTold(0, 0), period.length());
    for (int t = 0; t < 3 * period.length() + 2; t++) due(x.thread(0, t), period.charAt(t % period.length()) - 'a');
  }

  private static void threadRepeats() {
    Check.sentence(6, "; is REPEATED: the STRIPES one behind the other, again and again.");
    threads("a1;", "a");
    threads("c2 b1;", "ccb");
    threads("a1 b1 c1 d1;", "abcd");
    threads("a2 b3 c1 a2;", "aabbbcaa");
  }

  private static void threadTurnsBack() {
    Check.sentence(6, "/ TURNS BACK: the STRIPES in order, then back from the last but one to the second one, again and again");
    threads("a1 b1 c1/", "abcb");
    threads("a2 b1 c3 d2/", "aabcccddcccb");
    threads(TEN + "/", "abcdefghabahgfedcb");
  }

  private static void threadTurnsBackWithFew() {
    Check.sentence(6, "(of one STRIPE: that), and of two STRIPES there is none between");
    threads("d3/", "ddd");
    threads("d3 a2/", "dddaa");
  }

  private static void threadFarOut() {
    Check.sentence(6, "THREAD x (0 or more) has the COLOUR at x modulo PERIOD (a wrap-around)");
    Room x = new Room();
    x.sett("a399 b1;");
    x.sett("a1 b399;");
    x.sett("a1 b1 c1 d1 e1 f1 g1;");
    due(x.thread(0, 398), 0);
    due(x.thread(0, 399), 1);
    due(x.thread(0, 400), 0);
    due(x.thread(0, 799), 1);
    due(x.thread(0, 39999999), 1);
    due(x.thread(1, 400), 0);
    due(x.thread(1, 401), 1);
    due(x.thread(1, 0), 0);
    for (int t = MAX; t > MAX - 15; t--) due(x.thread(2, t), t % 7);
    due(x.thread(2, MAX), 1);
  }

  private static void threadRefuses() {
    Check.sentence(6, "COLOUR of THREAD x (0 or more). BAD.");
    for (int t : new int[] {-1, -8, MIN}) Check.refused(BAD, Room::some, x -> x.thread(1, t));
    for (int s : new int[] {-1, 2, 4, MIN, MAX}) Check.refused(BAD, Room::some, x -> x.thread(s, 0));
    due(Room.some().thread(1, 0), 2);
    due(Room.full().thread(3, 0), 1);
    due(Room.full().thread(4, 0), BAD);
  }

  private static void twillModuloFour() {
    Check.sentence(7, "COLOUR of THREAD x, if x + y modulo 4 is below 2, else of THREAD y");
    Room x = new Room();
    x.sett("a1 b1 c1 d1 e1 f1 g1;");
    for (int a = 0; a < 9; a++) {
      for (int b = 0; b < 9; b++) {
        boolean ofX = (a + b) % 4 == 0 || (a + b) % 4 == 1;
        due(x.twill(0, a, b), (ofX ? a : b) % 7);
      }
    }
    due(x.twill(0, 1, 6), 6);
    due(x.twill(0, 2, 6), 2);
    due(x.twill(0, 3, 6), 3);
    due(x.twill(0, 4, 6), 6);
  }

  private static void twillAtMost() {
    Check.sentence(7, "TWILL at x, y (0 or more, 99999 at most)");
    Room x = new Room();
    x.sett("a1 b1 c1 d1 e1 f1 g1;");
    due(x.twill(0, 99999, 99999), 99999 % 7);
    due(x.twill(0, 99999, 0), 0);
    due(x.twill(0, 99999, 1), 99999 % 7);
    due(x.twill(0, 0, 99999), 99999 % 7);
    due(x.twill(0, 1, 99999), 1);
    due(x.twill(0, 0, 0), 0);
    Check.refused(BAD, Room::some, y -> y.twill(0, 100000, 0));
    Check.refused(BAD, Room::some, y -> y.twill(0, 0, 100000));
    Check.refused(BAD, Room::some, y -> y.twill(0, -1, 0));
    Check.refused(BAD, Room::some, y -> y.twill(0, 0, -1));
  }

  private static void twillRefuses() {
    Check.sentence(7, "BAD. (no such SETT, x, y)");
    for (int s : new int[] {-1, 2, 4, MIN, MAX}) Check.refused(BAD, Room::some, x -> x.twill(s, 0, 0));
    for (int t : new int[] {MIN, MAX}) {
      Check.refused(BAD, Room::some, x -> x.twill(0, t, 0));
      Check.refused(BAD, Room::some, x -> x.twill(0, 0, t));
      Check.refused(BAD, Room::some, x -> x.twill(0, t, t));
    }
    due(Room.full().twill(3, 0, 0), 1);
  }
}
