/** The edges that the document names in its first part and at ROWS: what a text is, where its fault is, what is laid. */
public final class EdgesOfTextTest extends Checks {
  private static String times(int many, String text) {
    return text.repeat(many);
  }

  /** Nine chairs, six messages of eight stitches and as many who are indoors as fill up to so many letters. */
  private static String ofLetters(int many) {
    String text = NINE_CHAIRS + times(6, "m0,0,pppppppp;");
    int left = many - text.length();
    int longer = left % 3;
    return text + times((left - 4 * longer) / 3, "i0;") + times(longer, "i00;");
  }

  private static void lettersAtMost() {
    about("A TEXT is letters (200 at most)");
    NeedleTelegraph x = written(ofLetters(199));
    due("count(9)", x.count(9), 199);
    due("write(';'), the 200th", x.write(';'), 200);
    due("write(';'), the 201st", x.write(';'), FULL);
    due("count(9)", x.count(9), 200);
    due("fault() at the 200th letter", x.fault(), 199);
    x = written(ofLetters(200));
    due("fault() of 200 letters", x.fault(), NONE);
    due("write('x') behind them", x.write('x'), FULL);
    due("fault(), the letter did not come", x.fault(), NONE);
    due("lay() of 200 letters", x.lay(), 9);
    due("count(9), THE TEXT stays", x.count(9), 200);
    x = written(ofLetters(196) + "c0,1,0;");
    due("fault() where the last item is cut off at its end", x.fault(), 196);
  }

  private static void lettersAsInAscii() {
    about("A letter (32 to 126, as in ASCII)");
    for (int letter = 32; letter <= 126; letter++) {
      due("write(" + letter + ")", new NeedleTelegraph().write(letter), 1);
    }
    due("write(31)", new NeedleTelegraph().write(31), BAD);
    due("write(127)", new NeedleTelegraph().write(127), BAD);
    due("write(99 and 65536)", new NeedleTelegraph().write(99 + 65536), BAD);
    NeedleTelegraph x = written(ONE);
    x.write(31);
    x.write(127);
    due("fault(), neither came behind THE TEXT", x.fault(), NONE);
    due("count(9)", x.count(9), 7);
  }

  private static void wiped() {
    about("THE TEXT is empty: how long it was");
    NeedleTelegraph x = new NeedleTelegraph();
    due("wipe() of none", x.wipe(), 0);
    x.write('c');
    due("wipe() of one", x.wipe(), 1);
    due("wipe() once more", x.wipe(), 0);
    x = written(ofLetters(200));
    due("wipe() of a full one", x.wipe(), 200);
    due("count(9)", x.count(9), 0);
    due("fault() of none", x.fault(), NONE);
    due("write('c') again", x.write('c'), 1);
    due("fault(), nothing of the old one is behind it", x.fault(), 0);
  }

  private static void eachALetter() {
    about("ITEMS one behind the other, each a letter");
    for (int letter = 32; letter <= 126; letter++) {
      String item = (char) letter + "0,1,0;";
      dueFault(item, letter == 'c' ? NONE : 0);
      dueFault(ONE + item, letter == 'c' ? NONE : 7);
      dueFault(ONE + (char) letter + "0;", letter == 'i' ? NONE : 7);
      dueFault(ONE + (char) letter + "0,0,p;", letter == 'm' ? NONE : 7);
      dueFault(ONE + (char) letter, 7);
    }
  }

  private static void partedBy() {
    about("parted by , and a ; behind it");
    String[] none = {
      "c0", "c0,", "c0,1", "c0,1,", "c0,1,0", "c0;1,0;", "c0,1;0;", "c0,1,0,", "c0,1,0:", "c0,1,0,;", "c0,1,0,0;",
      "c01,0;", "c0,1;", "c0;", "c;", "c,0,1,0;", "c0,,1,0;", "c 0,1,0;", "c0, 1,0;", "c0,1 ,0;", "c0,1,0 ;",
      " c0,1,0;", ";c0,1,0;", ",c0,1,0;", ";", ",", "0", "cc0,1,0;",
    };
    for (String text : none) dueFault(text, 0);
    String[] noneBehindOne = {
      "m0", "m0,", "m0,0", "m0,0,", "m0,0,p", "m0,0p;", "m00,p;", "m0;0,p;", "m0,0;p;", "m0,0,p,;", "m0,0,p,u;",
      "m0,0,p:", "m,0,0,p;", "m0,0,,p;", "m 0,0,p;", "m0,0, p;", "m0,0,p ;", "m0,0,p0;", "mm0,0,p;",
      "i0", "i", "i;", "i,0;", "i0,;", "i0,0;", "i0:", "i 0;", "i0 ;", "ii0;", ";", " ", " c0,1,0;",
    };
    for (String item : noneBehindOne) {
      dueFault(ONE + item, 7);
      dueFault(ONE + item + ONE, 7);
    }
    dueFault(ONE + "m0,0,p;" + "i0;" + ONE + "m1,0,p;", NONE);
  }

  private static void oneOrTwoFigures() {
    about("(numbers: one or two figures)");
    String[] well = {"c4,9,0;", "c04,09,00;", "c00,1,0;", "c0,01,0;", "c0,1,00;"};
    for (String text : well) dueFault(text, NONE);
    String[] none = {"c,1,0;", "c0,,0;", "c0,1,;", "c000,1,0;", "c0,001,0;", "c0,1,000;", "c0,100,0;", "c-0,1,0;",
        "c+0,1,0;", "c0,1,-0;", "c0,1.,0;", "c0,a,0;", "c0,0x1,0;", "c/,1,0;", "c:,1,0;", "c0,1/,0;", "c0,1:,0;"};
    for (String text : none) dueFault(text, 0);
    String[] wellBehindOne = {"m00,0,p;", "m0,00,p;", "m0,09,p;", "i00;"};
    for (String item : wellBehindOne) dueFault(ONE + item, NONE);
    String[] noneBehindOne = {"m,0,p;", "m0,,p;", "m000,0,p;", "m0,000,p;", "m0,009,p;", "i;", "i000;", "m-0,0,p;",
        "m0,-1,p;", "i-0;", "i/;", "i:;"};
    for (String item : noneBehindOne) dueFault(ONE + item, 7);
    NeedleTelegraph x = laid("c00,10,00;c01,19,01;m01,10,p;m1,90,p;i01;");
    dueChair(x, 0, 0, 10, 0, 0, 0);
    dueChair(x, 1, 1, 19, 1, 1, 0);
    due("message(0, 0)", x.message(0, 0), 10);
    due("message(0, 2)", x.message(0, 2), 1);
    due("message(1, 0)", x.message(1, 0), 90);
  }

  private static void kindsAtMost() {
    about("a CHAIR of KIND K (0 PLAIN, 1 DROPPER, 2 ADDER, 3 DEAF, 4 SPY)");
    for (int kind = 0; kind <= 99; kind++) dueFault("c" + kind + ",1,0;", kind <= 4 ? NONE : 0);
    String[] ofPus = {"pus", "pu", "pusu", "ups", "pus"};
    String[] ofPup = {"pup", "pu", "pupu", "upu", "pus"};
    for (int kind = 0; kind <= 4; kind++) {
      NeedleTelegraph x = laid("c" + kind + ",1,0;");
      due("chair(0, 0)", x.chair(0, 0), kind);
      due("knit(0, pus) by " + kind, x.knit(0, row("pus")), row(ofPus[kind]));
      due("knit(0, pup) by " + kind, x.knit(0, row("pup")), row(ofPup[kind]));
    }
  }

  private static void pacesFromTo() {
    about("who takes P (1 to 20) minutes");
    for (int pace = 0; pace <= 99; pace++) dueFault("c0," + pace + ",0;", pace >= 1 && pace <= 20 ? NONE : 0);
    dueFault("c0,00,0;", 0);
    due("chair(0, 1), the least", laid("c0,1,0;").chair(0, 1), 1);
    due("chair(0, 1), the most", laid("c0,20,0;").chair(0, 1), 20);
  }

  private static void knitsOnToOneToldAhead() {
    about("knits on to CHAIR N (told ahead; herself: to nobody, she sits at the SEA)");
    String chairs = "";
    for (int told = 0; told < 9; told++) {
      for (int next = 0; next <= 12; next++) {
        dueFault(chairs + "c0,1," + next + ";", next <= told ? NONE : 7 * told);
      }
      chairs += "c0,1," + told + ";";
    }
    dueFault(ONE + "c0,1,99;", 7);
    NeedleTelegraph x = laid("c0,1,0;c2,1,0;c2,1,2;");
    due("comes(1, p, 0), she knits on", x.comes(1, 1, 0), row("pu"));
    due("comes(1, p, 1)", x.comes(1, 1, 1), 2);
    due("comes(2, p, 0), she sits at the sea", x.comes(2, 1, 0), row("pu"));
    due("comes(2, p, 1)", x.comes(2, 1, 1), 1);
    due("chair(2, 2)", x.chair(2, 2), 2);
  }

  private static void chairsAtMost() {
    about("9 at most, 0, 1, ..");
    for (int many = 1; many <= 9; many++) {
      NeedleTelegraph x = laid(times(many, ONE));
      due("count(0)", x.count(0), many);
      due("chair(" + (many - 1) + ", 1), the last", x.chair(many - 1, 1), 1);
      due("chair(" + many + ", 1), one behind it", x.chair(many, 1), BAD);
    }
    dueFault(times(10, ONE), 63);
    dueFault(times(9, ONE) + "i8;", NONE);
    dueFault(times(9, ONE) + "i9;", 63);
    due("lay() of ten", written(times(10, ONE)).lay(), NO);
    NeedleTelegraph x = laid(NINE_CHAIRS);
    for (int c = 0; c < 9; c++) due("chair(" + c + ", 1) as told", x.chair(c, 1), c + 1);
  }

  private static void messagesBeginAtOneToldAhead() {
    about("a MESSAGE that begins at CHAIR X (told ahead)");
    dueFault("m0,0,p;", 0);
    dueFault("m0,0,p;" + ONE, 0);
    dueFault(ONE + "m0,0,p;", NONE);
    dueFault(ONE + "m1,0,p;", 7);
    dueFault(ONE + "m1,0,p;" + ONE, 7);
    dueFault(ONE + "m0,0,p;" + ONE + "m1,0,p;", NONE);
    dueFault(NINE_CHAIRS + "m8,0,p;", NONE);
    dueFault(NINE_CHAIRS + "m9,0,p;", 63);
    dueFault(NINE_CHAIRS + "m99,0,p;", 63);
  }

  private static void minutesOfMessages() {
    about("in minute T (0 to 99)");
    for (int minute = 0; minute <= 99; minute++) {
      due("message(0, 0)", laid(ONE + "m0," + minute + ",p;").message(0, 0), minute);
    }
    dueFault(ONE + "m0,100,p;", 7);
    dueFault(ONE + "m0,-1,p;", 7);
  }

  private static void stitchesFromTo() {
    about("a ROW of 1 to 8 STITCHES by letters p (a PLAIN one, 1), u (a PURL, 2), s (a SLIP, 3)");
    dueFault(ONE + "m0,0,;", 7);
    for (int many = 1; many <= 12; many++) {
      for (String letter : new String[] {"p", "u", "s"}) {
        String stitches = times(many, letter);
        dueFault(ONE + "m0,0," + stitches + ";", many <= 8 ? NONE : 7);
        if (many <= 8) due("message(0, 3)", laid(ONE + "m0,0," + stitches + ";").message(0, 3), row(stitches));
      }
    }
    for (int letter = 32; letter <= 126; letter++) {
      boolean stitch = letter == 'p' || letter == 'u' || letter == 's';
      dueFault(ONE + "m0,0," + (char) letter + ";", stitch ? NONE : 7);
      // A ; ends the item ahead of the p, which is then the first letter of one that is not so.
      dueFault(ONE + "m0,0,p" + (char) letter + "p;", stitch ? NONE : letter == ';' ? 14 : 7);
    }
    NeedleTelegraph x = laid(ONE + "m0,0,p;m0,0,u;m0,0,s;m0,0,pus;m0,0,ssssssss;");
    due("message(0, 3)", x.message(0, 3), 1);
    due("message(1, 3)", x.message(1, 3), 2);
    due("message(2, 3)", x.message(2, 3), 3);
    due("message(3, 3)", x.message(3, 3), 27);
    due("message(4, 3)", x.message(4, 3), 65535);
  }

  private static void messagesAtMost() {
    about("6 at most, 0, 1, ..");
    for (int many = 0; many <= 6; many++) {
      NeedleTelegraph x = laid(ONE + SIX_MESSAGES.substring(0, 7 * many));
      due("count(1)", x.count(1), many);
      due("message(" + many + ", 0), one behind the last", x.message(many, 0), BAD);
      if (many > 0) due("message(" + (many - 1) + ", 0), the last", x.message(many - 1, 0), 0);
    }
    dueFault(ONE + SIX_MESSAGES, NONE);
    dueFault(ONE + SIX_MESSAGES + "m0,0,p;", 49);
    dueFault(ONE + SIX_MESSAGES + ONE + "i1;", NONE);
    due("lay() of seven", written(ONE + SIX_MESSAGES + "m0,0,p;").lay(), NO);
    NeedleTelegraph x = laid(ONE + "m0,5,p;m0,4,p;m0,3,p;m0,2,p;m0,1,p;m0,0,p;");
    for (int m = 0; m < 6; m++) due("message(" + m + ", 0) as told", x.message(m, 0), 5 - m);
  }

  private static void indoorsOnceMore() {
    about("iX CHAIR X (told ahead) is INDOORS (no matter if told once more)");
    dueFault("i0;", 0);
    dueFault("i0;" + ONE, 0);
    dueFault(ONE + "i1;", 7);
    dueFault(ONE + "i1;" + ONE, 7);
    dueFault(ONE + "i99;", 7);
    dueFault(ONE + ONE + "i1;i0;", NONE);
    for (int told = 0; told <= 4; told++) {
      NeedleTelegraph x = laid(ONE + ONE + times(told, "i1;"));
      due("chair(1, 3), told " + told + " times", x.chair(1, 3), told > 0 ? 1 : 0);
      due("chair(0, 3)", x.chair(0, 3), 0);
      due("count(3)", x.count(3), told > 0 ? 1 : 0);
    }
    NeedleTelegraph x = laid(NINE_CHAIRS + "i0;i1;i2;i3;i4;i5;i6;i7;i8;i08;");
    due("count(3), all", x.count(3), 9);
  }

  private static void firstFault() {
    about("FAULT: the place of the first letter of the first ITEM that is not so");
    dueFault("", NONE);
    dueFault("x", 0);
    dueFault("c", 0);
    dueFault("c0,1,9;", 0);
    dueFault(ONE + "c0,1,9;", 7);
    dueFault(ONE + "m0,12,pusx;", 7);
    dueFault(ONE + "i1;c9,1,0;", 7);
    dueFault("c5,1,0;c5,1,0;", 0);
    dueFault("c00,01,00;c5,1,0;", 10);
    dueFault(ONE + "m0,0,puspuspu;i0;x", 7 + 14 + 3);
    dueFault(ONE + "i0;i0;i0;c0,0,0;", 16);
    NeedleTelegraph x = written(ONE + "c0,1,1");
    due("fault() of an item that has no end yet", x.fault(), 7);
    x.write(';');
    due("fault() behind its end", x.fault(), NONE);
    due("fault() once more", x.fault(), NONE);
  }

  private static void laidOfAChairAtLeast() {
    about("LAID is a TEXT without FAULT, of a CHAIR at least (NO else");
    NeedleTelegraph x = new NeedleTelegraph();
    due("lay() of an empty text", x.lay(), NO);
    due("count(0)", x.count(0), 8);
    write(x, ONE + "x");
    due("lay() of a fault at the end", x.lay(), NO);
    due("count(0)", x.count(0), 8);
    x.wipe();
    write(x, "m0,0,p;");
    due("lay() of a message alone", x.lay(), NO);
    x.wipe();
    write(x, "i0;");
    due("lay() of one indoors alone", x.lay(), NO);
    x.wipe();
    write(x, ONE);
    due("lay() of a chair", x.lay(), 1);
    dueCounts(x, 1, 0, 0, 0, 0, 0, 0, 0, 0, 7);
    x.wipe();
    due("lay() of a text wiped", x.lay(), NO);
    due("count(0) stays", x.count(0), 1);
    write(x, NINE_CHAIRS);
    due("lay() of nine", x.lay(), 9);
  }

  private static void laidAtFirst() {
    about("at first c0,3,0;c1,2,0;c2,4,1;c3,5,1;c0,1,2;c4,6,3;c2,2,5;c0,7,7;m4,0,pupu;m6,2,sspup;m7,5,u;m5,9,pppsss;i3;");
    NeedleTelegraph first = new NeedleTelegraph();
    NeedleTelegraph told = laid("c0,3,0;c1,2,0;c2,4,1;c3,5,1;c0,1,2;c4,6,3;c2,2,5;c0,7,7;"
        + "m4,0,pupu;m6,2,sspup;m7,5,u;m5,9,pppsss;i3;");
    due("count(9), THE TEXT is empty at first", first.count(9), 0);
    due("fault() at first", first.fault(), NONE);
    due("undo() at first", first.undo(), NO);
    due("back() at first", first.back(), NO);
    due("forget() at first", first.forget(), 0);
    for (int what = 0; what <= 8; what++) due("count(" + what + ")", first.count(what), told.count(what));
    for (int c = 0; c < 8; c++) {
      for (int what = 0; what <= 4; what++) due("chair(" + c + ", " + what + ")", first.chair(c, what), told.chair(c, what));
    }
    for (int m = 0; m < 4; m++) {
      for (int what = 0; what <= 5; what++) {
        due("message(" + m + ", " + what + ")", first.message(m, what), told.message(m, what));
      }
    }
  }

  private static void laidAnew() {
    about("LAID: how many CHAIRS; minute 0, nothing SEEN, UNDONE, KEPT; THE TEXT stays");
    NeedleTelegraph x = written("c0,1,0;c0,1,1;m0,1,p;");
    x.pass(60);
    x.rain(1);
    x.send(2, 5);
    x.see(0, 1, 1);
    x.keep();
    x.keep();
    due("lay()", x.lay(), 2);
    dueCounts(x, 2, 1, 0, 0, 0, 0, 0, 0, 0, 21);
    due("undo()", x.undo(), NO);
    due("back()", x.back(), NO);
    due("forget()", x.forget(), 0);
    due("fault()", x.fault(), NONE);
    due("lay() once more", x.lay(), 2);
    for (int i = 0; i < 8; i++) x.rain(0);
    x.keep();
    x.keep();
    x.wipe();
    write(x, "c0,1,0;x");
    due("lay() of a fault", x.lay(), NO);
    due("count(7), all can be undone yet", x.count(7), 8);
    due("count(8), all is kept yet", x.count(8), 2);
  }

  private static void rowsAsNumbers() {
    about("its STITCHES are figures (1, 2, 3) to the base of 4, the first one the highest (pu: 6); an empty one is 0");
    NeedleTelegraph x = laid(ONE);
    due("row(pu)", row("pu"), 6);
    due("knit(0, pu)", x.knit(0, 6), 6);
    due("message(0, 3) of pu", laid(ONE + "m0,0,pu;").message(0, 3), 6);
    due("message(0, 3) of up", laid(ONE + "m0,0,up;").message(0, 3), 9);
    due("message(0, 3) of pppppppu", laid(ONE + "m0,0,pppppppu;").message(0, 3), 21846);
    int rows = 0;
    for (int number = -3; number <= 65540; number++) {
      // An object is good for 512 calls.
      if (number % 500 == 0) x = laid(ONE);
      int knitted = x.knit(0, number);
      int want = number == 0 || isRow(number) ? number : BAD;
      if (knitted != want) due("knit(0, " + number + ")", knitted, want);
      rows += knitted == BAD ? 0 : 1;
    }
    due("how many rows there are, the empty one too", rows, 9841);
  }

  private static void dueKnit(int kind, String stitches, String want) {
    due("knit(0, " + stitches + ") by kind " + kind, laid("c" + kind + ",1,0;").knit(0, row(stitches)), row(want));
  }

  private static void plainOnesAndDroppers() {
    about("a PLAIN one's is the same");
    for (String stitches : new String[] {"", "p", "u", "s", "pus", "puspuspu", "ssssssss"}) dueKnit(0, stitches, stitches);
    about("a DROPPER leaves out each third STITCH");
    String[] rows = {"", "s", "pu", "pus", "pusp", "puspu", "puspus", "puspusp", "puspuspu"};
    String[] wants = {"", "s", "pu", "pu", "pup", "pupu", "pupu", "pupup", "pupupu"};
    for (int i = 0; i < rows.length; i++) dueKnit(1, rows[i], wants[i]);
  }

  private static void adders() {
    about("an ADDER knits a PURL behind it, if it has fewer than 8");
    String stitches = "";
    for (String next : new String[] {"p", "s", "u", "p", "p", "s", "s", "p"}) {
      dueKnit(2, stitches, stitches + "u");
      stitches += next;
    }
    dueKnit(2, stitches, stitches);
    dueKnit(2, "ssssssss", "ssssssss");
    dueKnit(2, "sssssss", "sssssssu");
  }

  private static void deafOnesAndSpies() {
    about("a DEAF one PLAIN ones for PURLS, PURLS for PLAIN ones");
    dueKnit(3, "", "");
    dueKnit(3, "p", "u");
    dueKnit(3, "u", "p");
    dueKnit(3, "s", "s");
    dueKnit(3, "pppppppp", "uuuuuuuu");
    dueKnit(3, "uuuuuuus", "ppppppps");
    about("a SPY a SLIP in place of the last STITCH (of an empty ROW it is the same)");
    dueKnit(4, "", "");
    dueKnit(4, "p", "s");
    dueKnit(4, "s", "s");
    dueKnit(4, "pu", "ps");
    dueKnit(4, "pppppppp", "ppppppps");
  }

  public static void main(String[] args) {
    lettersAtMost();
    lettersAsInAscii();
    wiped();
    eachALetter();
    partedBy();
    oneOrTwoFigures();
    kindsAtMost();
    pacesFromTo();
    knitsOnToOneToldAhead();
    chairsAtMost();
    messagesBeginAtOneToldAhead();
    minutesOfMessages();
    stitchesFromTo();
    messagesAtMost();
    indoorsOnceMore();
    firstFault();
    laidOfAChairAtLeast();
    laidAtFirst();
    laidAnew();
    rowsAsNumbers();
    plainOnesAndDroppers();
    adders();
    deafOnesAndSpies();
    finish();
  }
}
