import java.util.List;
import java.util.function.Supplier;

/** The bounds of promises 19 to 21: TEXTS, THE RULE and what it comes to. */
public final class BoundsOfTexts {
  private static final int BAD = Check.BAD, FULL = Check.FULL, NONE = Check.NONE, MIN = Check.MIN, MAX = Check.MAX;
  private static final long NO = Check.NO;

  public static void main(String[] args) {
    textsAtMost();
    textFullAheadOfAll();
    textTapeEmptied();
    textNoneComesByFault();
    textOf160Bytes();
    textEndsTooEarly();
    textCutAnywhere();
    textNothingBehind();
    textBothParts();
    blanksBetween();
    eachByteBehindAOne();
    eachByteAheadOfAOne();
    wordsAsLongAsCanBe();
    wordsKnown();
    wordsOneLetterOff();
    wordsWhereOthersCanStand();
    numbersAtMost();
    numbersAsLongAsCanBe();
    namesAndKeys();
    sumsAndTerms();
    notsWhereTheyCanStand();
    oneComparisonAtMost();
    parentheses();
    openParentheses();
    openNots();
    openMinuses();
    openMixed();
    openTillTheirEnds();
    openPartsApart();
    firstFaultCounts();
    forceTold();
    forceRefuses();
    saysNo();
    saysOfNames();
    saysOfStyles();
    saysByParts();
    saysByLevels();
    saysTruth();
    saysComparisons();
    saysWrapped();
    saysByTheRule();
    Check.end("BoundsOfTexts");
  }

  private static void due(long got, long want) {
    Check.due(got, want);
  }

  private static void fault(String text, int place) {
    Room x = new Room();
    due(x.text(text), -100 - place);
    due(x.count(3), 1);
    due(x.count(4), 0);
  }

  private static void reads(String text) {
    due(new Room().text(text), 1);
  }

  /** An E at the place 6, first as the price, then (at the place 13) as the fit. */
  private static void faultOfE(String e, int place) {
    fault("price " + e + " ; fit 1 ;", 6 + place);
    fault("price 1;fit " + e + " ;", 12 + place);
  }

  private static void readsE(String e) {
    reads("price " + e + ";fit 1;");
    reads("price 1;fit " + e + ";");
  }

  // ---- promise 19

  private static void textsAtMost() {
    Check.sentence(19, "There are 6 TEXTS at most, TEXT 0 with them.");
    Room x = new Room();
    for (int t = 1; t <= 5; t++) {
      due(x.count(3), t);
      due(x.text("price " + t + ";fit 0;"), t);
    }
    due(x.text("price 6;fit 0;"), FULL);
    due(x.count(3), 6);
    due(x.force(5), 0);
    due(x.force(6), BAD);
  }

  private static Room fiveMore() {
    Room x = new Room();
    for (int t = 1; t <= 5; t++) x.text("price " + t + ";fit 0;");
    return x;
  }

  private static void textFullAheadOfAll() {
    Check.sentence(19, "FULL (ahead of all): no TEXT more has room (THE TAPE stays).");
    for (String tape : new String[] {"", "!", "price 1;fit 0;", "price 1;fit", "a5 b3;", "a5/"}) {
      Check.refused(FULL, () -> fiveMore().tape(tape), Room::text);
    }
    Room x = fiveMore().tape("a5;");
    due(x.text(), FULL);
    due(x.count(4), 3);
    due(x.sett(), 0);
    Check.refused(FULL, Room::full, Room::text);
  }

  private static void textTapeEmptied() {
    Check.sentence(19, "THE TAPE, which is empty then (by a FAULT, too)");
    Room x = new Room();
    for (String tape : new String[] {"price 1;fit 0;", "price 1;fit 0", "!", ""}) {
      x.text(tape);
      due(x.count(4), 0);
      due(x.text(), -100);
      due(x.feed(1, 'p'), 1);
      due(x.text(), -100);
    }
  }

  private static void textNoneComesByFault() {
    Check.sentence(19, "its number; -100 less the place of its FAULT (no TEXT comes then)");
    Room x = new Room();
    due(x.text("price 1;fit 2"), -113);
    due(x.count(3), 1);
    due(x.force(1), BAD);
    due(x.text("price 3;fit 4;"), 1);
    due(x.text("price 5;fit 6;;"), -114);
    due(x.text("price 7;fit 8;"), 2);
    due(x.force(2), 0);
    x.sett("a10;");
    x.bolt(0, 154);
    x.kilt(0, 420, 420, 0);
    x.lay(0, 0);
    due(x.says(0, 0), 7);
    due(x.says(0, 1), 8);
    x.force(1);
    due(x.says(0, 0), 3);
    due(x.says(0, 1), 4);
  }

  private static void textOf160Bytes() {
    Check.sentence(19, "A TEXT is read from THE TAPE (160 bytes at most)");
    String longest = "price 1" + "+1".repeat(70) + ";fit(hip);  ";
    Room x = Room.withKilt("a10;", 154, 0);
    x.lay(0, 0);
    due(x.text((longest + " ".repeat(160)).substring(0, 159) + "\n"), 1);
    x.force(1);
    due(x.says(0, 0), 71);
    String full = "price 1" + "+1".repeat(72) + ";fit 07;";
    due(x.text(full + " "), 2);
    x.force(2);
    due(x.says(0, 0), 73);
    due(x.says(0, 1), 7);
    String to160 = "price 1" + "+1".repeat(72) + ";fit 007;";
    due(to160.length(), 160);
    due(x.text(to160), 3);
    due(x.text(to160.substring(0, 159)), -259);
    due(x.text(to160.substring(0, 159) + " "), -260);
    due(x.text(to160.substring(0, 159) + "!"), -259);
    due(x.text("price 1" + " ".repeat(153)), -260);
    due(x.text(" ".repeat(160)), -260);
    due(x.text("price " + "1+".repeat(77)), -260);
    due(x.text("price " + "1".repeat(154)), -106);
    due(x.text("p".repeat(160)), -100);
  }

  private static void textEndsTooEarly() {
    Check.sentence(19, "(the text's size, if it ends too early)");
    fault("", 0);
    fault(" ", 1);
    fault("\n\n\n", 3);
    fault("price", 5);
    fault("price 1", 7);
    fault("price 1 ", 8);
    fault("price 1;", 8);
    fault("price 1;fit", 11);
    fault("price 1;fit 1", 13);
    fault("price 1;fit 1  \n", 16);
    fault("price (1", 8);
    fault("price not", 9);
    fault("price -", 7);
    fault("price 1+", 8);
    fault("price 1 < ", 10);
    fault("price (((((", 11);
  }

  private static void textCutAnywhere() {
    Check.sentence(19, "FAULT: .. (the text's size, if it ends too early), also of .. a WORD that is neither KEY nor NAME");
    String whole = "price used * 3 + pleats * 10 ; fit waist < hip ;";
    for (int size = 0; size < whole.length(); size++) {
      int place = size;
      boolean inAWord = size > 0 && letter(whole.charAt(size)) && letter(whole.charAt(size - 1));
      while (inAWord && place > 0 && letter(whole.charAt(place - 1))) place--;
      fault(whole.substring(0, size), place);
    }
    reads(whole);
  }

  private static boolean letter(char c) {
    return c >= 'a' && c <= 'z';
  }

  private static void textNothingBehind() {
    Check.sentence(19, "TEXT: price E ; fit E ; (and nothing more)");
    fault("price 1;fit 1;;", 14);
    fault("price 1;fit 1; price 1;fit 1;", 15);
    fault("price 1;fit 1; 1", 15);
    fault("price 1;fit 1; !", 15);
    fault("price 1;fit 1;)", 14);
    fault("price 1;fit 1;" + (char) 0, 14);
    reads("price 1;fit 1; \n ");
  }

  private static void textBothParts() {
    Check.sentence(19, "TEXT: price E ; fit E ;");
    fault("fit 1;price 1;", 0);
    fault("price 1;price 1;", 8);
    fault("price ;fit 1;", 6);
    fault("price 1;fit ;", 12);
    fault("price 1 fit 1;", 8);
    fault("1;fit 1;", 0);
    fault(";", 0);
    fault("price 1;1;", 8);
    fault("used", 0);
  }

  private static void blanksBetween() {
    Check.sentence(19, "blanks (32, 10) may stand between");
    reads("price 1;fit 1;");
    reads("price(1);fit(1);");
    reads("price\n1\n;\nfit\n1\n;\n");
    reads("  price  1  ;  fit  1  ;  ");
    reads("\n \nprice\n 1;fit \n1;");
    reads("price-1;fit not(1);");
    for (char b : new char[] {0, 9, 11, 12, 13, 31, 33, 127, 160, 255}) {
      fault(b + "price 1;fit 1;", 0);
      fault("price" + b + "1;fit 1;", 5);
      fault("price 1" + b + ";fit 1;", 7);
      fault("price 1;fit 1;" + b, 14);
    }
  }

  private static void eachByteBehindAOne() {
    Check.sentence(19, "TOKENS: WORDS, NUMBERS, SIGNS ( ) ; + - * < = ; FAULT .. also of a byte that begins none (behind a ONE)");
    for (int b = 0; b < 256; b++) {
      String text = "price 1 " + (char) b + "; fit 1 ;";
      if (b == ' ' || b == '\n') reads(text);
      else fault(text, "+-*<=;".indexOf(b) >= 0 ? 9 : 8);
    }
  }

  private static void eachByteAheadOfAOne() {
    Check.sentence(19, "TOKENS: WORDS, NUMBERS, SIGNS ( ) ; + - * < = ; FAULT .. also of a byte that begins none (ahead of a ONE)");
    for (int b = 0; b < 256; b++) {
      String text = "price " + (char) b + " 1 ; fit 1 ;";
      if (b == ' ' || b == '\n' || b == '-') reads(text);
      else fault(text, b == '(' ? 10 : b >= '0' && b <= '9' ? 8 : 6);
    }
  }

  private static void wordsAsLongAsCanBe() {
    Check.sentence(19, "TOKENS, each as long as can be: WORDS (a .. z)");
    fault("priceused;fit 1;", 0);
    fault("price usedhip;fit 1;", 6);
    fault("price nothip;fit 1;", 6);
    fault("price 1;fitused;", 8);
    fault("price hip andwaist;fit 1;", 10);
    fault("price hipand waist;fit 1;", 6);
    reads("price1;fit1;");
    reads("price 1and 2or 3;fit 1;");
    reads("price not 1and not 2;fit not(1)or not-1;");
    fault("price hip1;fit 1;", 9);
    fault("price 1hip;fit 1;", 7);
  }

  private static void wordsKnown() {
    Check.sentence(19, "a WORD that is neither KEY nor NAME");
    for (String w : List.of("a", "z", "use", "useds", "sed", "pleat", "hips", "hi", "waste", "show", "styles", "xor", "no", "an",
        "zz", "aaaaaaaaaaaaaaaaaaaaaaaaaaaaaaaaaaaaaaaaaaaaaaaaaa")) {
      faultOfE(w, 0);
      faultOfE("1 + " + w, 4);
      fault("price 1 " + w + " 1;fit 1;", 8);
      fault(w + " 1;fit 1;", 0);
    }
    for (String w : List.of("prices", "pric", "rice", "p")) fault(w + " 1;fit 1;", 0);
    for (String w : List.of("fits", "fi", "it", "f")) fault("price 1;" + w + " 1;", 8);
    fault("Price 1;fit 1;", 0);
    faultOfE("Used", 0);
    faultOfE("usEd", 0);
    faultOfE("hip_", 3);
    faultOfE("hip`", 3);
    faultOfE("hip{", 3);
    faultOfE("hi{p", 0);
  }

  private static void wordsOneLetterOff() {
    Check.sentence(19, "NAMES are used pleats hip waist shown style; price, fit, or, and, not are KEYS (letter by letter)");
    for (String w : List.of("used", "pleats", "hip", "waist", "shown", "style", "not", "or", "and", "fit", "price")) {
      boolean joins = w.equals("or") || w.equals("and");
      for (int at = 0; at < w.length(); at++) {
        for (String other : List.of("z", "a", "e", "", w.charAt(at) + "" + w.charAt(at))) {
          String off = w.substring(0, at) + other + w.substring(at + 1);
          if (off.equals(w) || off.isEmpty()) continue;
          if (joins) faultOfE("1 " + off + " 1", 2);
          else if (w.equals("not")) faultOfE(off + " 1", 0);
          else if (w.equals("fit")) fault("price 1;" + off + " 1;", 8);
          else if (w.equals("price")) fault(off + " 1;fit 1;", 0);
          else faultOfE(off, 0);
        }
      }
      for (String end : List.of("a", "z")) {
        faultOfE("1 " + w + end + " 1", 2);
        faultOfE(end + w + " 1", 0);
      }
    }
  }

  private static void wordsWhereOthersCanStand() {
    Check.sentence(19, "FAULT .. also of a byte that begins none, a WORD that is neither .., a NUMBER that is too long (ahead of a ONE)");
    for (String wrong : List.of("zz", "12345", "!", "Hip")) {
      faultOfE("(" + wrong + ")", 1);
      faultOfE("((" + wrong, 2);
      faultOfE("-" + wrong, 1);
      faultOfE("not " + wrong, 4);
      faultOfE("not not " + wrong, 8);
      faultOfE("1 and " + wrong, 6);
      faultOfE("1*" + wrong, 2);
      faultOfE("1=" + wrong, 2);
      fault("price " + wrong + ";" + wrong, 6);
      fault("price 1;" + wrong, 8);
      fault("price 1;fit 1;" + wrong, 14);
      fault(wrong + "price 1;fit 1;", 0);
    }
  }

  private static void numbersAtMost() {
    Check.sentence(19, "NUMBERS (as many digits as stand there, 4 at most); FAULT .. of a NUMBER that is too long");
    for (String n : List.of("0", "9", "00", "0000", "9999", "1000", "0001")) readsE(n);
    for (String n : List.of("10000", "00000", "00001", "99999", "12345678901234567890")) {
      faultOfE(n, 0);
      faultOfE("1 + " + n, 4);
      // where no NUMBER could stand either
      fault("price 1 " + n + ";fit 1;", 8);
    }
  }

  private static void numbersAsLongAsCanBe() {
    Check.sentence(19, "TOKENS, each as long as can be: .. NUMBERS (as many digits as stand there ..)");
    faultOfE("1234 5", 5);
    faultOfE("12 34", 3);
    faultOfE("1 2", 2);
    faultOfE("12345", 0);
    Room x = Room.withKilt("a10;", 154, 0);
    x.lay(0, 0);
    x.text("price 0123+1000;fit 9999;");
    x.force(1);
    due(x.says(0, 0), 1123);
    due(x.says(0, 1), 9999);
  }

  private static void namesAndKeys() {
    Check.sentence(19, "NAMES are used pleats hip waist shown style; price, fit, or, and, not are KEYS");
    for (String w : List.of("used", "pleats", "hip", "waist", "shown", "style")) {
      readsE(w);
      readsE("(" + w + ")*-" + w);
      fault(w + " 1;fit 1;", 0);
      faultOfE("1 " + w + " 1", 2);
    }
    for (String w : List.of("price", "fit", "or", "and")) {
      faultOfE(w, 0);
      faultOfE("1+" + w, 2);
      faultOfE("(" + w + ")", 1);
    }
    faultOfE("1 price 1", 2);
    faultOfE("1 fit 1", 2);
    faultOfE("1 not 1", 2);
    readsE("1 or 1");
    readsE("1 and 1");
  }

  private static void sumsAndTerms() {
    Check.sentence(19, "SUM: TERM { + or - TERM }. TERM: ONE { * ONE }.");
    readsE("1+2-3*4*5+6");
    readsE("1*-2");
    readsE("1--2");
    faultOfE("+1", 0);
    faultOfE("*1", 0);
    faultOfE("1++2", 2);
    faultOfE("1**2", 2);
    faultOfE("1*+2", 2);
    faultOfE("1-*2", 2);
    faultOfE("1+ ;", 3);
    faultOfE("1* )", 3);
    faultOfE("-+1", 1);
  }

  private static void notsWhereTheyCanStand() {
    Check.sentence(19, "AND: NOT { and NOT }. NOT: not NOT, or SUM ..");
    readsE("not 1");
    readsE("not not 1");
    readsE("1 and not 1");
    readsE("1 or not not 1");
    readsE("(not 1)");
    readsE("-(not 1)");
    faultOfE("1+not 1", 2);
    faultOfE("1-not 1", 2);
    faultOfE("1*not 1", 2);
    faultOfE("1<not 1", 2);
    faultOfE("1=not 1", 2);
    faultOfE("-not 1", 1);
    faultOfE("not and 1", 4);
    faultOfE("not not", 8);
  }

  private static void oneComparisonAtMost() {
    Check.sentence(19, "SUM, perhaps < or = and a SUM");
    readsE("1<2");
    readsE("1=2");
    readsE("not 1<2");
    readsE("1<2 and 2=3 or 3<4");
    readsE("(1<2)=(3<4)");
    for (String two : List.of("1<2<3", "1=2=3", "1<2=3", "1=2<3")) {
      faultOfE(two, 3);
      faultOfE("(" + two + ")", 4);
    }
    faultOfE("not 1<2<3", 7);
    faultOfE("1 and 2=3=4", 9);
    faultOfE("<1", 0);
    faultOfE("1<", 3);
    faultOfE("1<<2", 2);
    faultOfE("1<=2", 2);
    faultOfE("1=<2", 2);
  }

  private static void parentheses() {
    Check.sentence(19, "ONE: .. ( E )");
    readsE("(1)");
    readsE("(1 or 2 and not 3<4+5)");
    faultOfE("()", 1);
    faultOfE("(1", 3);
    faultOfE("1)", 1);
    faultOfE("(1))", 3);
    faultOfE("((1)", 5);
    faultOfE(")1(", 0);
    faultOfE("(1)(2)", 3);
    faultOfE("1(2)", 1);
    faultOfE("(1;)", 2);
  }

  private static void openParentheses() {
    Check.sentence(19, "a ( .. while 5 of these are open");
    for (int n = 1; n <= 5; n++) readsE("(".repeat(n) + "1" + ")".repeat(n));
    for (int n = 6; n <= 9; n++) faultOfE("(".repeat(n) + "1" + ")".repeat(n), 5);
    faultOfE("((((( (1", 6);
    faultOfE("(((((1+(1", 7);
  }

  private static void openNots() {
    Check.sentence(19, "a not .. while 5 of these are open");
    for (int n = 1; n <= 5; n++) readsE("not ".repeat(n) + "1");
    for (int n = 6; n <= 9; n++) faultOfE("not ".repeat(n) + "1", 20);
    faultOfE("(((((not 1", 5);
    faultOfE("(((((1 and not 1", 11);
  }

  private static void openMinuses() {
    Check.sentence(19, "a - ahead of a ONE while 5 of these are open");
    for (int n = 1; n <= 5; n++) readsE("-".repeat(n) + "1");
    for (int n = 6; n <= 9; n++) faultOfE("-".repeat(n) + "1", 5);
    faultOfE("(((((-1", 5);
    faultOfE("(((((1*-1", 7);
    // a - between TERMS is none of these
    readsE("(((((1-1-1-1-1-1-1)))))");
    readsE("1-1-1-1-1-1-1-1-1-1");
    readsE("1------1");
    faultOfE("1-------1", 7);
    faultOfE("(((((1--1)))))", 7);
  }

  private static void openMixed() {
    Check.sentence(19, "a ( , a not, a - ahead of a ONE while 5 of these are open (together)");
    readsE("(not(-(1)))");
    readsE("not(not(-1))");
    readsE("-(-(-1))");
    faultOfE("(not(-(-1)))", 7);
    faultOfE("(not(-((1))))", 7);
    faultOfE("-(-(-(1)))", 5);
    readsE("not(not(not 1))");
    faultOfE("not(not(not(1)))", 11);
    faultOfE("not(not(-(1)))", 9);
    faultOfE("not not not not not(1)", 19);
    faultOfE("not not not not not-1", 19);
    faultOfE("-----(1)", 5);
  }

  private static void openTillTheirEnds() {
    Check.sentence(19, "(a ( till its ) , not and - till what they belong to ends)");
    readsE("(((((1)))))+(((((1)))))*(((((1)))))");
    readsE("((((1))+((1))+(((1)))))");
    faultOfE("((((1))+(((1)))+((((1)))))", 19);
    // a not till its SUMS end
    readsE("not not not not not 1 and(((((1)))))");
    readsE("not not not not not 1 or not not not not not 1");
    readsE("not not not not not 1<1 and-----1");
    faultOfE("not not not not not 1+(1)", 22);
    faultOfE("not not not not not 1*(1)", 22);
    faultOfE("not not not not not 1<(1)", 22);
    faultOfE("not not not not not 1=-1", 22);
    readsE("not not not not(1)<(1)");
    // a - till its ONE ends
    readsE("-----1*(((((1)))))");
    readsE("-----1*-----1+-----1<-----1");
    readsE("-----1-(((((1)))))");
    readsE("----(1)*(((((1)))))");
    readsE("not----1*----1");
    faultOfE("not----1*-----1", 13);
    faultOfE("not----(1)", 7);
  }

  private static void openPartsApart() {
    Check.sentence(19, "while 5 of these are open (none is, when fit begins)");
    reads("price(((((1)))));fit(((((1)))));");
    reads("price not not not not not 1;fit not not not not not 1;");
    reads("price-----1;fit-----1;");
    fault("price-----1;fit------1;", 20);
  }

  private static void firstFaultCounts() {
    Check.sentence(19, "the place of the first byte of the first TOKEN that can't stand there");
    fault("price 1 1 ! 12345 zz", 8);
    fault("price zz 12345 !", 6);
    fault("price 12345 zz", 6);
    fault("price ! zz", 6);
    fault("prise ;", 0);
    fault("price ((((((zz", 11);
    fault("price (((((zz", 11);
    fault("price  \n  ;", 10);
    fault("price 1 ; fit used used ;", 19);
  }

  // ---- promise 20

  private static void forceTold() {
    Check.sentence(20, "A TEXT is THE RULE: which was.");
    Room x = fiveMore();
    int was = 0;
    for (int t : new int[] {5, 5, 1, 0, 0, 4, 3, 2, 5}) {
      due(x.force(t), was);
      due(x.count(5), t);
      was = t;
    }
  }

  private static void forceRefuses() {
    Check.sentence(20, "BAD. (no such TEXT)");
    for (int t : new int[] {-1, 2, 5, 6, MIN, MAX}) Check.refused(BAD, Room::some, x -> x.force(t));
    for (int t : new int[] {-1, 6, MIN, MAX}) Check.refused(BAD, Room::full, x -> x.force(t));
    due(Room.some().force(1), 1);
    due(Room.full().force(5), 5);
    due(new Room().force(1), BAD);
    due(new Room().force(0), 0);
  }

  // ---- promise 21

  private static void saysNo() {
    Check.sentence(21, "NO: none such, not LAID.");
    for (int k : new int[] {-1, 3, 8, MIN, MAX}) Check.refused(NO, Room::some, x -> x.says(k, 0));
    for (int part : new int[] {-1, 2, MIN, MAX}) Check.refused(NO, Room::some, x -> x.says(0, part));
    for (int part = -1; part <= 2; part++) {
      int of = part;
      Check.refused(NO, Room::some, x -> x.says(1, of));
    }
    Check.refused(NO, Room::full, x -> x.says(7, 0));
    Check.refused(NO, Room::full, x -> x.says(8, 0));
    due(Room.some().says(0, 0), 20);
    due(Room.some().says(2, 1), 0);
    Room x = Room.withKilt("a10;", 153, 0);
    due(x.lay(0, 0), NONE);
    due(x.says(0, 0), NO);
    x.bolt(0, 154);
    x.lay(0, 1);
    due(x.says(0, 0), 502);
    due(x.lay(0, 0), NONE);
    due(x.says(0, 0), 502);
  }

  private static Supplier<Room> worn() {
    return () -> {
      Room x = Room.of("a79;", 999);
      x.kilt(0, 423, 420, 0);
      x.lay(0, 0);
      x.let(0, -2);
      return x;
    };
  }

  private static void worth(String e, long want) {
    Room x = worn().get();
    due(x.text("price " + e + ";fit 1234;"), 1);
    x.force(1);
    due(x.says(0, 0), want);
    due(x.says(0, 1), 1234);
    due(x.text("price 4321;fit " + e + ";"), 2);
    x.force(2);
    due(x.says(0, 1), want);
    due(x.says(0, 0), 4321);
  }

  private static void saysOfNames() {
    Check.sentence(21, "used: USED; shown: WIDTH NOW; style: its number (and pleats, hip, waist)");
    // v 11, APRON 48, a 15, PLEATS from 63 on by 90, u 410
    worth("used", 63 + 3 * 90 + 11 + 66 + 48);
    worth("shown", 9);
    worth("pleats", 4);
    worth("hip", 23);
    worth("waist", 20);
    worth("style", 0);
    Room x = worn().get();
    x.text("price shown*1000+used;fit shown;");
    x.force(1);
    due(x.says(0, 0), 9458);
    x.let(0, 7);
    due(x.says(0, 0), 16458);
    x.turn(0);
    due(x.says(0, 1), 16);
    x.lay(0, 0);
    due(x.says(0, 1), 11);
  }

  private static void saysOfStyles() {
    Check.sentence(21, "style: its number");
    Room x = Room.of("a80;", 9999);
    x.text("price style;fit style=5;");
    x.force(1);
    for (int style = 0; style < 6; style++) {
      x.kilt(style, 420, 420, 0);
      x.lay(style, 0);
      due(x.says(style, 0), style);
      due(x.says(style, 1), style == 5 ? 1 : 0);
    }
  }

  private static void saysByParts() {
    Check.sentence(21, "What a part (0 price, 1 fit) of THE RULE comes to");
    worth("0", 0);
    worth("9999", 9999);
    worth("0042", 42);
  }

  private static void saysByLevels() {
    Check.sentence(21, "E: AND { or AND }. AND: NOT { and NOT }. NOT: .. SUM: .. TERM: .. ONE: ..");
    worth("10-3-2", 5);
    worth("10-3+2", 9);
    worth("2+3*4", 14);
    worth("2*3+4", 10);
    worth("(2+3)*4", 20);
    worth("-2*3", -6);
    worth("2*-3", -6);
    worth("-(2+3)", -5);
    worth("--5", 5);
    worth("2--3", 5);
    worth("1 or 0 and 0", 1);
    worth("(1 or 0)and 0", 0);
    worth("0 and 0 or 1", 1);
    worth("not 0 and 0", 0);
    worth("not(0 and 0)", 1);
    worth("not 1 or 1", 1);
    worth("not 1<0", 1);
    worth("not 0=0", 0);
    worth("1+1<3", 1);
    worth("3<1+1", 0);
    worth("2*2=4 and 1", 1);
    worth("-1<0", 1);
  }

  private static void saysTruth() {
    Check.sentence(21, "of or, and, not, <, = 1 or 0 (what is not 0 is true)");
    worth("2 or 0", 1);
    worth("0 or-3", 1);
    worth("0 or 0", 0);
    worth("5 or 6", 1);
    worth("2 and 4", 1);
    worth("-1 and-1", 1);
    worth("2 and 0", 0);
    worth("0 and 2", 0);
    worth("0 and 0", 0);
    worth("not 0", 1);
    worth("not 7", 0);
    worth("not-1", 0);
    worth("not not 7", 1);
    worth("256*256*256*256 or 0", 0);
    worth("not(256*256*256*256)", 1);
    worth("256*256*256*128 and 1", 1);
  }

  private static void saysComparisons() {
    Check.sentence(21, "of .. <, = 1 or 0");
    worth("1<2", 1);
    worth("2<2", 0);
    worth("3<2", 0);
    worth("2=2", 1);
    worth("2=3", 0);
    worth("-2<-1", 1);
    worth("-1<-2", 0);
    worth("0-1=-1", 1);
    worth("(1<2)+(2<3)+(3=3)", 3);
    // the wrapped ones, too
    worth("256*256*256*128<0", 1);
    worth("256*256*256*128-1<0", 0);
    worth("256*256*256*128<256*256*256*128-1", 1);
    worth("256*256*256*128-1=-(256*256*256*128)-1", 1);
  }

  private static void saysWrapped() {
    Check.sentence(21, "An E is an int (32 bits, wrapping)");
    worth("256*256*256*128", MIN);
    worth("256*256*256*128-1", MAX);
    worth("256*256*256*128-1+1", MIN);
    worth("-(256*256*256*128)", MIN);
    worth("-(256*256*256*128-1)", MIN + 1);
    worth("256*256*256*256", 0);
    worth("9999*9999*9999", 9999 * 9999 * 9999);
    worth("9999*9999*21", 2099580021);
    worth("9999*9999*22", 2199560022L - (1L << 32));
    worth("-9999*9999*22", (1L << 32) - 2199560022L);
    worth("0-9999*9999*21-9999*9999", -2099580021L - 99980001L + (1L << 32));
  }

  private static void saysByTheRule() {
    Check.sentence(21, "What a part .. of THE RULE comes to");
    Room x = worn().get();
    for (int t = 1; t <= 5; t++) x.text("price " + t + ";fit " + 10 * t + ";");
    due(x.says(0, 0), 458 * 3 + 40);
    for (int t = 5; t >= 1; t--) {
      due(x.force(6), BAD);
      x.force(t);
      due(x.says(0, 0), t);
      due(x.says(0, 1), 10 * t);
    }
    x.force(0);
    due(x.says(0, 0), 458 * 3 + 40);
    due(x.says(0, 1), 1);
  }
}
