/** Each promise by its number: ordinary calls, the edges that the document names, and wrong calls. */
public final class PromisesTest extends Checks {
  private static void aNewObject() {
    about("promise 1");
    NeedleTelegraph x = new NeedleTelegraph();
    dueCounts(x, 8, 4, 0, 1, 0, 0, 0, 0, 0, 0);
    dueChair(x, 0, 0, 3, 0, 0, 0);
    dueChair(x, 1, 1, 2, 0, 0, 0);
    dueChair(x, 2, 2, 4, 1, 0, 0);
    dueChair(x, 3, 3, 5, 1, 1, 0);
    dueChair(x, 4, 0, 1, 2, 0, 0);
    dueChair(x, 5, 4, 6, 3, 0, 0);
    dueChair(x, 6, 2, 2, 5, 0, 0);
    dueChair(x, 7, 0, 7, 7, 0, 0);
    dueMessage(x, 0, 0, 0, 4, 102, 0, NONE);
    dueMessage(x, 1, 2, 0, 6, 985, 0, NONE);
    dueMessage(x, 2, 5, 0, 7, 2, 0, NONE);
    dueMessage(x, 3, 9, 0, 5, 1407, 0, NONE);
    due("BAD", NeedleTelegraph.BAD, -1);
    due("NO", NeedleTelegraph.NO, -2);
    due("FULL", NeedleTelegraph.FULL, -3);
    due("NONE", NeedleTelegraph.NONE, -4);
  }

  private static void writes() {
    about("promise 2");
    NeedleTelegraph x = new NeedleTelegraph();
    due("write(32)", x.write(32), 1);
    due("write(126)", x.write(126), 2);
    int[] none = {31, 127, 0, -1, 32 + 256, LOW, HIGH};
    for (int letter : none) due("write(" + letter + ")", x.write(letter), BAD);
    due("count(9)", x.count(9), 2);
    for (int i = 3; i <= 200; i++) due("write('c')", x.write('c'), i);
    due("the 201st write('c')", x.write('c'), FULL);
    due("write(31) when it is full", x.write(31), BAD);
    due("count(9)", x.count(9), 200);
    due("wipe()", x.wipe(), 200);
    due("write('c')", x.write('c'), 1);
    x = written("c0,1,0;");
    due("count(0), not laid", x.count(0), 8);
  }

  private static void wipes() {
    about("promise 3");
    NeedleTelegraph x = new NeedleTelegraph();
    due("wipe() of an empty text", x.wipe(), 0);
    write(x, "c0,1,0;x");
    due("wipe()", x.wipe(), 8);
    due("count(9)", x.count(9), 0);
    due("wipe() once more", x.wipe(), 0);
    write(x, "c0,1,0;");
    due("lay() of the new text", x.lay(), 1);
    due("wipe()", x.wipe(), 7);
    due("count(0) behind it", x.count(0), 1);
  }

  private static void faultsOfChairs() {
    about("promise 4");
    dueFault("", NONE);
    dueFault("c0,1,0;", NONE);
    dueFault("c00,01,00;", NONE);
    dueFault("c4,20,0;c0,1,1;c0,1,0;", NONE);
    dueFault("c5,1,0;", 0);
    dueFault("c0,0,0;", 0);
    dueFault("c0,21,0;", 0);
    dueFault("c0,1,1;", 0);
    dueFault("c0,1,0;c0,1,2;", 7);
    dueFault("c0,001,0;", 0);
    dueFault("c,1,0;", 0);
    dueFault("c0,,0;", 0);
    dueFault("c0,1,;", 0);
    dueFault("c0,1;", 0);
    dueFault("c0,1,0,0;", 0);
    dueFault("c0,1,0", 0);
    dueFault("c0,1,0;c", 7);
    dueFault("c0,1,0; c0,1,0;", 7);
    dueFault("C0,1,0;", 0);
    dueFault("c-1,1,0;", 0);
    dueFault(";", 0);
    dueFault("c0,1,0;;", 7);
    dueFault(NINE_CHAIRS, NONE);
    dueFault(NINE_CHAIRS + "c0,1,0;", NINE_CHAIRS.length());
    dueFault("c0,1,0;x0;c9,9,9;", 7);
  }

  private static void faultsOfMessagesAndIndoors() {
    dueFault(ONE + "m0,0,p;m0,99,ppuussps;m00,07,u;", NONE);
    dueFault("m0,0,p;" + ONE, 0);
    dueFault(ONE + "m1,0,p;", 7);
    dueFault(ONE + "m0,100,p;", 7);
    dueFault(ONE + "m0,0,;", 7);
    dueFault(ONE + "m0,0;", 7);
    dueFault(ONE + "m0,0,pppppppps;", 7);
    dueFault(ONE + "m0,0,pxp;", 7);
    dueFault(ONE + "m0,0,P;", 7);
    dueFault(ONE + "m0,0,p", 7);
    dueFault(ONE + "m,0,p;", 7);
    dueFault(ONE + "m0,,p;", 7);
    dueFault(ONE + SIX_MESSAGES, NONE);
    dueFault(ONE + SIX_MESSAGES + "m0,0,p;", 7 + 42);
    dueFault(ONE + "i0;i00;i0;", NONE);
    dueFault("i0;" + ONE, 0);
    dueFault(ONE + "i1;", 7);
    dueFault(ONE + "i;", 7);
    dueFault(ONE + "i0", 7);
    dueFault(ONE + "i000;", 7);
    dueFault(ONE + "i0,0;", 7);
    NeedleTelegraph x = written("x");
    x.fault();
    dueCounts(x, 8, 4, 0, 1, 0, 0, 0, 0, 0, 1);
  }

  private static void lays() {
    about("promise 5");
    NeedleTelegraph x = new NeedleTelegraph();
    x.pass(2);
    x.see(0, 1, 1);
    x.keep();
    due("lay() of an empty text", x.lay(), NO);
    write(x, "c0,1,0;i0;x");
    due("lay() of a text with a fault", x.lay(), NO);
    dueCounts(x, 8, 4, 2, 1, 1, 0, 1, 1, 1, 11);
    dueChair(x, 1, 1, 2, 0, 0, 0);
    x.wipe();
    write(x, "c0,1,0;c3,20,0;i0;i0;i1;i0;m1,3,sup;");
    due("lay()", x.lay(), 2);
    dueCounts(x, 2, 1, 0, 2, 0, 0, 0, 0, 0, 36);
    dueChair(x, 0, 0, 1, 0, 1, 0);
    dueChair(x, 1, 3, 20, 0, 1, 0);
    dueMessage(x, 0, 3, 0, 1, 57, 0, NONE);
    due("undo()", x.undo(), NO);
    due("back()", x.back(), NO);
    x.rain(0);
    x.pass(9);
    due("lay() once more", x.lay(), 2);
    dueCounts(x, 2, 1, 0, 2, 0, 0, 0, 0, 0, 36);
    dueMessage(x, 0, 3, 0, 1, 57, 0, NONE);
    due("lay() of nine", laid(NINE_CHAIRS).count(0), 9);
  }

  private static void tellsChairs() {
    about("promise 6");
    NeedleTelegraph x = laid("c4,20,0;c2,7,0;i1;m1,0,p;m1,0,u;m0,9,s;m0,0,s;");
    dueChair(x, 0, 4, 20, 0, 0, 0);
    dueChair(x, 1, 2, 7, 0, 1, 0);
    x.pass(1);
    due("chair(0, 4)", x.chair(0, 4), 1);
    due("chair(1, 4)", x.chair(1, 4), 2);
    x.pass(19);
    due("chair(0, 4), one out", x.chair(0, 4), 1);
    int[] none = {-1, 2, LOW, HIGH};
    for (int c : none) due("chair(" + c + ", 0)", x.chair(c, 0), BAD);
    int[] noWhat = {-1, 5, LOW, HIGH};
    for (int what : noWhat) due("chair(0, " + what + ")", x.chair(0, what), BAD);
  }

  private static void tellsMessages() {
    about("promise 7");
    NeedleTelegraph x = laid("c0,2,0;c2,3,0;m1,1,pu;m0,0,s;");
    dueMessage(x, 0, 1, 0, 1, 6, 0, NONE);
    dueMessage(x, 1, 0, 0, 0, 3, 0, NONE);
    x.pass(1);
    dueMessage(x, 0, 1, 0, 1, 6, 0, NONE);
    dueMessage(x, 1, 0, 1, 0, 3, 1, NONE);
    x.pass(1);
    dueMessage(x, 0, 1, 1, 1, 6, 2, NONE);
    dueMessage(x, 1, 0, 2, 0, 3, 0, 1);
    x.pass(2);
    dueMessage(x, 0, 1, 1, 0, 26, 0, NONE);
    x.pass(2);
    dueMessage(x, 0, 1, 2, 0, 26, 0, 5);
    int[] none = {-1, 2, LOW, HIGH};
    for (int m : none) due("message(" + m + ", 0)", x.message(m, 0), BAD);
    int[] noWhat = {-1, 6, LOW, HIGH};
    for (int what : noWhat) due("message(0, " + what + ")", x.message(0, what), BAD);
    x = laid("c0,1,0;m0,0,p;");
    x.pass(1);
    due("message(0, 5), out in the first minute", x.message(0, 5), 0);
  }

  private static void dueKnits(NeedleTelegraph x, int c, String... wants) {
    String[] rows = {"", "p", "pu", "pus", "puspusp", "puspuspu", "sssuuupp"};
    for (int i = 0; i < rows.length; i++) due("knit(" + c + ", " + rows[i] + ")", x.knit(c, row(rows[i])), row(wants[i]));
  }

  private static void knits() {
    about("promise 8");
    NeedleTelegraph x = laid("c0,1,0;c1,1,0;c2,1,0;c3,1,0;c4,1,0;");
    due("knit(0, 27)", x.knit(0, 27), 27);
    due("knit(1, 65535)", x.knit(1, 65535), 4095);
    due("knit(3, 21845)", x.knit(3, 21845), 43690);
    dueKnits(x, 0, "", "p", "pu", "pus", "puspusp", "puspuspu", "sssuuupp");
    dueKnits(x, 1, "", "p", "pu", "pu", "pupup", "pupupu", "ssuupp");
    dueKnits(x, 2, "u", "pu", "puu", "pusu", "puspuspu", "puspuspu", "sssuuupp");
    dueKnits(x, 3, "", "u", "up", "ups", "upsupsu", "upsupsup", "ssspppuu");
    dueKnits(x, 4, "", "s", "ps", "pus", "puspuss", "puspusps", "sssuuups");
    int[] noRows = {-1, 4, 16, 17, 20, 65536, 65532, LOW, HIGH};
    for (int row : noRows) due("knit(0, " + row + ")", x.knit(0, row), BAD);
    int[] none = {-1, 5, LOW, HIGH};
    for (int c : none) due("knit(" + c + ", 1)", x.knit(c, 1), BAD);
  }

  private static void passes() {
    about("promise 9");
    NeedleTelegraph x = laid("c0,2,0;c1,3,0;c0,1,1;m2,0,pus;m0,2,s;m0,0,p;i1;");
    due("pass(1)", x.pass(1), 0);
    dueMessage(x, 0, 0, 1, 1, 27, 0, NONE);
    due("pass(1), message 2 is out", x.pass(1), 1);
    dueMessage(x, 0, 0, 1, 1, 27, 0, NONE);
    due("pass(1), message 1 is begun in minute 2", x.pass(1), 1);
    dueMessage(x, 1, 2, 1, 0, 3, 1, NONE);
    due("pass(60)", x.pass(60), 2);
    dueMessage(x, 0, 0, 1, 1, 27, 0, NONE);
    due("count(2)", x.count(2), 63);
    x.rain(1);
    x.pass(1);
    due("message(0, 4)", x.message(0, 4), 2);
    x.rain(1);
    due("pass(2), she knits on indoors", x.pass(2), 2);
    dueMessage(x, 0, 0, 1, 0, 6, 0, NONE);
    due("pass(2)", x.pass(2), 3);
    dueMessage(x, 0, 0, 2, 0, 6, 0, 67);
    int[] none = {0, -1, 61, LOW, HIGH};
    for (int n : none) due("pass(" + n + ")", x.pass(n), BAD);
    due("count(2)", x.count(2), 68);
    due("count(7)", x.count(7), 8);
  }

  private static void rains() {
    about("promise 10");
    NeedleTelegraph x = new NeedleTelegraph();
    due("rain(3)", x.rain(3), 0);
    due("chair(3, 3)", x.chair(3, 3), 0);
    due("rain(7)", x.rain(7), 1);
    due("rain(0)", x.rain(0), 1);
    due("count(3)", x.count(3), 2);
    due("chair(7, 3)", x.chair(7, 3), 1);
    int[] none = {-1, 8, LOW, HIGH};
    for (int c : none) due("rain(" + c + ")", x.rain(c), BAD);
    due("count(7)", x.count(7), 3);
    due("count(3)", x.count(3), 2);
  }

  private static void sends() {
    about("promise 11");
    NeedleTelegraph x = new NeedleTelegraph();
    x.pass(3);
    due("send(7, 65535)", x.send(7, 65535), 4);
    dueMessage(x, 4, 3, 0, 7, 65535, 0, NONE);
    x.pass(1);
    dueMessage(x, 4, 3, 1, 7, 65535, 6, NONE);
    int[] none = {-1, 8, LOW, HIGH};
    for (int c : none) due("send(" + c + ", 1)", x.send(c, 1), BAD);
    int[] noRows = {0, -1, 4, 65536, LOW, HIGH};
    for (int row : noRows) due("send(0, " + row + ")", x.send(0, row), BAD);
    due("send(0, 1)", x.send(0, 1), 5);
    due("the seventh send(0, 1)", x.send(0, 1), FULL);
    due("send(8, 1) when it is full", x.send(8, 1), BAD);
    due("send(0, 0) when it is full", x.send(0, 0), BAD);
    due("count(1)", x.count(1), 6);
    due("count(7)", x.count(7), 4);
  }

  private static void alters() {
    about("promise 12");
    NeedleTelegraph x = laid("c3,2,0;m0,0,pu;m0,5,u;");
    due("alter(0, 1), not begun yet", x.alter(0, 1), NO);
    x.pass(1);
    due("alter(0, 27), begun", x.alter(0, 27), 6);
    due("message(0, 3)", x.message(0, 3), 27);
    due("message(0, 4)", x.message(0, 4), 1);
    due("alter(1, 1), not begun yet", x.alter(1, 1), NO);
    due("alter(1, 0), not begun yet", x.alter(1, 0), BAD);
    int[] none = {-1, 2, LOW, HIGH};
    for (int m : none) due("alter(" + m + ", 1)", x.alter(m, 1), BAD);
    int[] noRows = {0, -1, 4, 65536, LOW, HIGH};
    for (int row : noRows) due("alter(0, " + row + ")", x.alter(0, row), BAD);
    due("alter(0, 27) by the same", x.alter(0, 27), 27);
    due("count(7)", x.count(7), 3);
    x.pass(1);
    due("message(0, 3)", x.message(0, 3), 39);
    due("alter(0, 1), out", x.alter(0, 1), NO);
    due("alter(0, 0), out", x.alter(0, 0), BAD);
  }

  private static void undoes() {
    about("promise 13");
    NeedleTelegraph x = new NeedleTelegraph();
    due("undo() of nothing", x.undo(), NO);
    x.pass(3);
    x.alter(0, 1);
    x.rain(3);
    x.send(0, 2);
    due("undo() of send", x.undo(), 3);
    due("count(1)", x.count(1), 4);
    due("undo() of rain", x.undo(), 2);
    due("chair(3, 3)", x.chair(3, 3), 1);
    due("undo() of alter", x.undo(), 1);
    due("message(0, 3)", x.message(0, 3), 102);
    due("undo() of three minutes", x.undo(), 0);
    dueMessage(x, 0, 0, 0, 4, 102, 0, NONE);
    due("count(2)", x.count(2), 0);
    due("undo() once more", x.undo(), NO);
    for (int i = 1; i <= 10; i++) x.pass(i);
    due("count(7)", x.count(7), 8);
    int minutes = 55;
    for (int i = 10; i > 2; i--) {
      due("undo() of pass(" + i + ")", x.undo(), i - 3);
      minutes -= i;
      due("count(2)", x.count(2), minutes);
    }
    due("undo() of the ninth", x.undo(), NO);
    due("count(2)", x.count(2), 3);
    x.pass(1);
    x.see(0, 1, 1);
    x.keep();
    x.write('c');
    due("undo() of the minute alone", x.undo(), 0);
    dueCounts(x, 8, 4, 3, 1, 2, 0, 1, 0, 1, 1);
    x = laid("c0,3,0;m0,0,p;m0,1,u;");
    x.pass(3);
    x.pass(1);
    due("undo() of a minute", x.undo(), 1);
    dueMessage(x, 0, 0, 2, 0, 1, 0, 2);
    dueMessage(x, 1, 1, 1, 0, 2, 1, NONE);
  }

  private static void comings() {
    about("promise 14");
    NeedleTelegraph x = new NeedleTelegraph();
    due("comes(0, 27, 0)", x.comes(0, 27, 0), 27);
    due("comes(0, 27, 1)", x.comes(0, 27, 1), 3);
    due("comes(2, 27, 0)", x.comes(2, 27, 0), 26);
    due("comes(2, 27, 1)", x.comes(2, 27, 1), 9);
    due("comes(6, 65535, 0)", x.comes(6, 65535, 0), 4095);
    due("comes(6, 1, 0)", x.comes(6, 1, 0), 11);
    due("comes(6, 1, 1), one of them indoors", x.comes(6, 1, 1), 18);
    int[] none = {-1, 8, LOW, HIGH};
    for (int c : none) due("comes(" + c + ", 1, 0)", x.comes(c, 1, 0), BAD);
    int[] noRows = {0, -1, 4, 65536, LOW, HIGH};
    for (int row : noRows) due("comes(0, " + row + ", 0)", x.comes(0, row, 0), BAD);
    int[] noWhat = {-1, 2, LOW, HIGH};
    for (int what : noWhat) due("comes(0, 1, " + what + ")", x.comes(0, 1, what), BAD);
    x = laid("c0,20,0;c0,20,0;c0,20,1;c0,20,2;c0,20,3;c0,20,4;c0,20,5;c0,20,6;c0,20,7;");
    due("comes(8, 1, 1)", x.comes(8, 1, 1), 180);
  }

  private static void outs() {
    about("promise 15");
    NeedleTelegraph x = laid("c2,3,0;c3,2,0;c0,1,2;m1,4,p;m0,0,p;m1,0,p;m2,0,u;i1;");
    due("out(0, 0), held up", x.out(0, 0), NONE);
    due("out(0, 1), held up", x.out(0, 1), NONE);
    due("out(1, 0)", x.out(1, 0), 3);
    due("out(1, 1)", x.out(1, 1), 6);
    x.rain(1);
    due("out(0, 0), it begins in minute 4", x.out(0, 0), 9);
    due("out(0, 1)", x.out(0, 1), 10);
    x.pass(1);
    x.rain(1);
    due("out(2, 0), she has begun it", x.out(2, 0), 4);
    x.rain(0);
    due("out(2, 0), the next one is indoors", x.out(2, 0), NONE);
    due("out(1, 0), she has begun it", x.out(1, 0), 2);
    due("out(3, 0)", x.out(3, 0), NO);
    due("out(3, 2)", x.out(3, 2), BAD);
    int[] none = {-1, 4, LOW, HIGH};
    for (int m : none) due("out(" + m + ", 0)", x.out(m, 0), BAD);
    int[] noWhat = {-1, 2, LOW, HIGH};
    for (int what : noWhat) due("out(0, " + what + ")", x.out(0, what), BAD);
    x = laid(SLOW + "m7,80,p;m7,81,p;");
    due("out(0, 0) at the last", x.out(0, 0), 240);
    due("out(1, 0), a minute too late", x.out(1, 0), NONE);
    due("out(1, 1), a minute too late", x.out(1, 1), NONE);
    x.pass(1);
    due("out(1, 0), a minute on", x.out(1, 0), 240);
  }

  private static void codes() {
    about("promise 16");
    NeedleTelegraph x = laid("c0,1,0;c1,1,0;c4,1,0;c2,1,0;c2,1,3;");
    due("code(0, 1)", x.code(0, 1), 1);
    due("code(0, 85)", x.code(0, 85), 85);
    due("code(0, 255)", x.code(0, 255), 255);
    due("code(0, 341), five stitches", x.code(0, 341), NONE);
    due("code(1, 6)", x.code(1, 6), 6);
    due("code(1, 27), by the lowest third", x.code(1, 27), row("pups"));
    due("code(2, 7), by the lowest last", x.code(2, 7), 5);
    due("code(2, 6)", x.code(2, 6), NONE);
    due("code(4, ppsuuu), four and two purls", x.code(4, row("ppsuuu")), row("ppsu"));
    due("code(4, ppppsuu), five and two purls", x.code(4, row("ppppsuu")), NONE);
    due("code(4, ppus), no purl behind it", x.code(4, row("ppus")), NONE);
    due("code(4, 10), an empty one alone", x.code(4, 10), NONE);
    due("code(0, 0)", x.code(0, 0), NONE);
    int[] none = {-1, 5, LOW, HIGH};
    for (int c : none) due("code(" + c + ", 1)", x.code(c, 1), BAD);
    int[] noRows = {-1, 4, 65536, LOW, HIGH};
    for (int row : noRows) due("code(0, " + row + ")", x.code(0, row), BAD);
  }

  private static void coulds() {
    about("promise 17");
    NeedleTelegraph x = laid("c0,1,0;c1,1,0;c4,1,0;c4,1,1;");
    due("could(0, 1)", x.could(0, 1), 1);
    due("could(0, 341), five stitches", x.could(0, 341), 1);
    due("could(0, 1366), six stitches", x.could(0, 1366), 0);
    due("could(1, 5), two or three stitches", x.could(1, 5), 4);
    due("could(1, 21), four stitches", x.could(1, 21), 3);
    due("could(1, 85), five stitches", x.could(1, 85), 3);
    due("could(2, 7)", x.could(2, 7), 3);
    due("could(2, 1023)", x.could(2, 1023), 3);
    due("could(3, 5)", x.could(3, 5), 3);
    due("could(0, 0)", x.could(0, 0), 0);
    int[] none = {-1, 4, LOW, HIGH};
    for (int c : none) due("could(" + c + ", 1)", x.could(c, 1), BAD);
    int[] noRows = {-1, 4, 65536, LOW, HIGH};
    for (int row : noRows) due("could(0, " + row + ")", x.could(0, row), BAD);
  }

  private static void brings() {
    about("promise 18");
    NeedleTelegraph x = laid("c0,2,0;c0,2,0;c0,2,1;c0,2,0;c0,1,4;m1,0,p;m2,0,p;i3;i4;");
    due("bring(0), nobody", x.bring(0), 0);
    due("bring(1), nobody", x.bring(1), 0);
    x.rain(2);
    x.rain(1);
    due("bring(0)", x.bring(0), 2);
    due("bring(1)", x.bring(1), 6);
    x.rain(1);
    x.pass(1);
    x.rain(1);
    x.rain(0);
    due("bring(0), message 0 is begun, message 1 not", x.bring(0), 3);
    due("bring(1)", x.bring(1), 7);
    due("count(3), nobody came out for it", x.count(3), 5);
    int[] noWhat = {-1, 2, LOW, HIGH};
    for (int what : noWhat) due("bring(" + what + ")", x.bring(what), BAD);
    x = laid(SLOW + "m7,81,p;i5;");
    due("bring(0), too late", x.bring(0), NONE);
    due("bring(1), too late", x.bring(1), NONE);
    due("bring(2), too late", x.bring(2), BAD);
    x.pass(1);
    due("bring(1), a minute on", x.bring(1), 32);
    x = laid("c0,1,0;i0;");
    due("bring(0), no message", x.bring(0), 0);
    x = laid("c0,2,0;m0,0,p;");
    x.pass(1);
    x.rain(0);
    due("bring(0), begun", x.bring(0), 0);
    x.pass(1);
    due("bring(0), out", x.bring(0), 0);
  }

  private static void meets() {
    about("promise 19");
    NeedleTelegraph x = laid("c0,5,0;c0,3,0;c0,1,1;m0,4,p;m1,0,p;m2,2,p;m0,90,p;i1;");
    due("meet(0, 1), held up", x.meet(0, 1), NONE);
    due("meet(1, 2), at her who is indoors", x.meet(1, 2), 3);
    x.rain(1);
    due("meet(0, 1)", x.meet(0, 1), 5);
    due("meet(1, 0)", x.meet(1, 0), 5);
    due("meet(0, 3)", x.meet(0, 3), NONE);
    x.pass(5);
    due("meet(0, 1), now", x.meet(0, 1), 0);
    x.pass(60);
    due("meet(0, 1), both out", x.meet(0, 1), NONE);
    due("count(2)", x.count(2), 65);
    int[] none = {-1, 4, LOW, HIGH};
    for (int m : none) {
      due("meet(" + m + ", 0)", x.meet(m, 0), BAD);
      due("meet(0, " + m + ")", x.meet(0, m), BAD);
    }
    due("meet(0, 0)", x.meet(0, 0), BAD);
    due("meet(9, 9)", x.meet(9, 9), BAD);
    x = laid(SLOW + "c0,20,7;" + "m0,0,p;m8,80,p;m8,81,p;i0;");
    due("meet(0, 1) at the last", x.meet(0, 1), 240);
    due("meet(0, 2), a minute too late", x.meet(0, 2), NONE);
  }

  private static void hanging() {
    about("promise 20");
    NeedleTelegraph x = new NeedleTelegraph();
    due("hangs(0)", x.hangs(0), 0);
    due("hangs(1)", x.hangs(1), 7);
    x = laid("c0,1,0;c0,1,1;c0,1,1;c0,1,0;");
    due("hangs(0), the lowest of two", x.hangs(0), 0);
    due("hangs(1)", x.hangs(1), 2);
    x = laid("c0,1,0;c0,1,1;c0,1,1;c0,1,2;i1;");
    due("hangs(0)", x.hangs(0), 1);
    due("hangs(1)", x.hangs(1), 3);
    x = laid("c0,1,0;");
    due("hangs(0), one alone", x.hangs(0), 0);
    due("hangs(1), one alone", x.hangs(1), 1);
    int[] noWhat = {-1, 2, LOW, HIGH};
    for (int what : noWhat) due("hangs(" + what + ")", x.hangs(what), BAD);
  }

  private static void seeing() {
    about("promise 21");
    NeedleTelegraph x = new NeedleTelegraph();
    int[] none = {-1, 8, LOW, HIGH};
    for (int c : none) due("see(" + c + ", 1, 1)", x.see(c, 1, 1), BAD);
    int[] noRows = {-1, 4, 65536, LOW, HIGH};
    for (int row : noRows) {
      due("see(0, " + row + ", 1)", x.see(0, row, 1), BAD);
      due("see(0, 1, " + row + ")", x.see(0, 1, row), BAD);
    }
    due("see(0, 0, 1)", x.see(0, 0, 1), BAD);
    due("count(6)", x.count(6), 0);
    due("see(0, 1, 0)", x.see(0, 1, 0), 1);
    for (int i = 2; i <= 6; i++) due("see(0, 1, 1)", x.see(0, 1, 1), i);
    due("the seventh see(0, 1, 1)", x.see(0, 1, 1), FULL);
    due("see(0, 0, 1) when it is full", x.see(0, 0, 1), BAD);
    due("count(6)", x.count(6), 6);
    due("count(7)", x.count(7), 0);
  }

  private static void forgets() {
    about("promise 22");
    NeedleTelegraph x = new NeedleTelegraph();
    due("forget() of nothing", x.forget(), 0);
    x.see(0, 1, 2);
    x.see(0, 1, 1);
    due("forget()", x.forget(), 2);
    due("count(6)", x.count(6), 0);
    due("lies()", x.lies(), 512 + 255);
    due("forget() once more", x.forget(), 0);
    due("see(0, 1, 1)", x.see(0, 1, 1), 1);
    due("lies(), of the new one alone", x.lies(), 512 + 255);
  }

  private static void kindsOf() {
    about("promise 23");
    NeedleTelegraph x = laid("c0,1,0;c1,1,0;c2,1,1;");
    due("kinds(0), nothing seen", x.kinds(0), 31);
    x.see(0, 1, 1);
    due("kinds(0), plain or dropper", x.kinds(0), 3);
    due("kinds(1), not on the way", x.kinds(1), 31);
    x.see(0, 27, 6);
    due("kinds(0), dropper", x.kinds(0), 2);
    due("kinds(1), it is not so", x.kinds(1), 0);
    x.forget();
    x.see(0, 6, 26);
    due("kinds(0), adder", x.kinds(0), 4);
    x.forget();
    x.see(0, 6, 9);
    due("kinds(0), deaf", x.kinds(0), 8);
    x.forget();
    x.see(0, 6, 7);
    due("kinds(0), spy", x.kinds(0), 16);
    x.see(1, 6, 6);
    due("kinds(0), none", x.kinds(0), 0);
    x.forget();
    x.see(2, 6, 6);
    due("kinds(2), as it is by the dropper", x.kinds(2), 1 + 2 + 4);
    due("kinds(1)", x.kinds(1), 2);
    due("chair(2, 0) stays", x.chair(2, 0), 2);
    x.rain(1);
    due("kinds(2), indoors or not", x.kinds(2), 7);
    int[] none = {-1, 3, LOW, HIGH};
    for (int c : none) due("kinds(" + c + ")", x.kinds(c), BAD);
  }

  private static void lying() {
    about("promise 24");
    NeedleTelegraph x = laid("c0,1,0;c1,1,0;c0,1,2;");
    due("lies(), nothing seen", x.lies(), 512 + 7);
    x.see(0, 27, 27);
    due("lies(), as it is: plain or spy", x.lies(), 512 + 7);
    x.see(0, 6, 6);
    due("lies(), as it is: nobody but plain, two not on the way", x.lies(), 512 + 6);
    x.forget();
    x.see(1, 27, 26);
    due("lies(), by the first", x.lies(), 1);
    x.forget();
    x.see(1, 1, 2);
    due("lies(), by either", x.lies(), 3);
    x.see(2, 1, 2);
    due("lies(), two at one time", x.lies(), 0);
    x.forget();
    x.see(2, 1, 0);
    due("lies(), by nobody", x.lies(), 0);
  }

  private static void slipping() {
    about("promise 25");
    NeedleTelegraph x = laid("c0,1,0;c2,1,0;c1,1,2;c2,1,3;c4,1,4;c1,1,4;");
    dueSlips(x, 0, 6, 0, 1, 1);
    dueSlips(x, 0, 6, 1, 9, 10);
    dueSlips(x, 0, 6, 5, 1, 2);
    dueSlips(x, 0, 6, 10, 0, 1);
    dueSlips(x, 1, 6, 5, 1, 4);
    // Of two purls the first left out ahead of the purl behind it: it comes as a shorter one.
    dueSlips(x, 1, 10, 2, 16, 25);
    // An adder makes eight of seven and of eight: with the first of all alike left out it comes as it would.
    dueSlips(x, 3, 43690, 10, 1, 1);
    dueSlips(x, 3, 43690, 3, 1, 1);
    dueSlips(x, 3, 21846, 3, 7, 10);
    // A dropper makes two of two and of three: those whose second and third follow the first alike.
    dueSlips(x, 2, 21, 4, 1, 1);
    dueSlips(x, 2, 22, 4, 3, 5);
    dueSlips(x, 2, 26, 4, 3, 5);
    dueSlips(x, 5, 21, 10, 0, 1);
    dueSlips(x, 5, 21, 5, 1, 2);
    dueSlips(x, 4, 1, 3, 7, 10);
    x = laid("c0,1,0;c0,1,0;c0,1,1;c0,1,2;c0,1,3;c0,1,4;c0,1,5;c0,1,6;c0,1,7;");
    dueSlips(x, 8, 1, 1, 387420489, 1000000000);
    dueSlips(x, 8, 1, 5, 1, 512);
    int[] none = {-1, 9, LOW, HIGH};
    for (int c : none) due("slips(" + c + ", 1, 1, 0)", x.slips(c, 1, 1, 0), BAD);
    int[] noRows = {0, -1, 4, 65536, LOW, HIGH};
    for (int row : noRows) due("slips(0, " + row + ", 1, 0)", x.slips(0, row, 1, 0), BAD);
    int[] noTenths = {-1, 11, LOW, HIGH};
    for (int tenths : noTenths) due("slips(0, 1, " + tenths + ", 0)", x.slips(0, 1, tenths, 0), BAD);
    int[] noPart = {-1, 2, LOW, HIGH};
    for (int part : noPart) due("slips(0, 1, 1, " + part + ")", x.slips(0, 1, 1, part), BAD);
  }

  private static void evenings() {
    about("promise 26");
    NeedleTelegraph x = laid("c0,1,0;m0,0,pu;");
    // By z = 0 the draw ahead of the first minute is 1: a message of two plain ones is sent.
    due("evening(0, 1, 0)", x.evening(0, 1, 0), 2);
    due("evening(0, 1, 1)", x.evening(0, 1, 1), 6 + 5);
    dueCounts(x, 1, 1, 0, 0, 0, 0, 0, 0, 0, 15);
    x = laid("c0,1,0;" + SIX_MESSAGES);
    due("evening(0, 1, 0), none can be sent", x.evening(0, 1, 0), 6);
    due("evening(0, 1, 1), none can be sent", x.evening(0, 1, 1), 6);
    // By z = 9 the first draw is 51417: chair 6427 modulo 3, a slip (401 modulo 3), a purl (100 modulo 3).
    x = laid("c0,1,0;c3,1,1;c0,1,2;");
    due("evening(9, 1, 0)", x.evening(9, 1, 0), 1);
    due("evening(9, 1, 1), of a deaf one", x.evening(9, 1, 1), row("sp"));
    // By z = 5 the first draw is 56728, which 8 divides.
    x = laid("c0,1,0;m0,0,pu;");
    due("evening(5, 1, 0), she goes indoors", x.evening(5, 1, 0), 0);
    x.rain(0);
    due("evening(5, 1, 0), she comes out", x.evening(5, 1, 0), 1);
    due("chair(0, 3) behind it", x.chair(0, 3), 1);
    x = laid("c0,20,0;m0,0,ssssssss;");
    due("evening(0, 19, 0)", x.evening(0, 19, 0), 0);
    due("evening(0, 19, 1)", x.evening(0, 19, 1), 0);
    due("evening(0, 20, 1)", x.evening(0, 20, 1), (65535 + 5) % 9973);
    x.pass(20);
    due("evening(1, 1, 0), out before", x.evening(1, 1, 0), 1);
    x = new NeedleTelegraph();
    due("evening(5, 60, 0)", x.evening(5, 60, 0), 5);
    due("evening(5, 60, 1)", x.evening(5, 60, 1), 384);
    int[] noZ = {-1, 10000, LOW, HIGH};
    for (int z : noZ) due("evening(" + z + ", 1, 0)", x.evening(z, 1, 0), BAD);
    int[] noMinutes = {0, -1, 61, LOW, HIGH};
    for (int n : noMinutes) due("evening(0, " + n + ", 0)", x.evening(0, n, 0), BAD);
    int[] noWhat = {-1, 2, LOW, HIGH};
    for (int what : noWhat) due("evening(0, 1, " + what + ")", x.evening(0, 1, what), BAD);
    dueCounts(x, 8, 4, 0, 1, 0, 0, 0, 0, 0, 0);
  }

  private static void keeps() {
    about("promise 27");
    NeedleTelegraph x = new NeedleTelegraph();
    x.pass(1);
    due("keep()", x.keep(), 1);
    due("keep()", x.keep(), 2);
    due("the third keep()", x.keep(), FULL);
    due("count(8)", x.count(8), 2);
    due("count(7)", x.count(7), 1);
    due("undo()", x.undo(), 0);
    due("count(8)", x.count(8), 2);
  }

  private static void goesBack() {
    about("promise 28");
    NeedleTelegraph x = new NeedleTelegraph();
    due("back() to nothing", x.back(), NO);
    x.pass(1);
    x.keep();
    x.pass(8);
    x.rain(3);
    x.alter(0, 27);
    x.keep();
    x.send(0, 1);
    x.alter(0, 1);
    x.rain(3);
    x.see(0, 1, 1);
    x.write('c');
    due("back()", x.back(), 1);
    dueCounts(x, 8, 4, 9, 0, 3, 0, 1, 0, 1, 1);
    due("message(0, 3)", x.message(0, 3), 27);
    due("undo() behind it", x.undo(), NO);
    x.pass(1);
    due("count(7)", x.count(7), 1);
    due("back()", x.back(), 0);
    dueCounts(x, 8, 4, 1, 1, 1, 0, 1, 0, 0, 1);
    dueMessage(x, 0, 0, 1, 2, 102, 0, NONE);
    x.pass(1);
    due("back() once more", x.back(), NO);
    due("count(7) stays", x.count(7), 1);
    due("keep()", x.keep(), 1);
  }

  private static void counts() {
    about("promise 29");
    NeedleTelegraph x = laid("c0,2,0;c0,1,1;c0,4,1;m0,0,p;m1,0,p;m2,9,p;m2,0,p;i0;");
    x.pass(3);
    x.rain(1);
    x.rain(2);
    x.see(0, 1, 1);
    x.see(0, 1, 1);
    x.keep();
    dueCounts(x, 3, 4, 3, 3, 2, 1, 2, 3, 1, 52);
    int[] noWhat = {-1, 10, LOW, HIGH};
    for (int what : noWhat) due("count(" + what + ")", x.count(what), BAD);
  }

  public static void main(String[] args) {
    aNewObject();
    writes();
    wipes();
    faultsOfChairs();
    faultsOfMessagesAndIndoors();
    lays();
    tellsChairs();
    tellsMessages();
    knits();
    passes();
    rains();
    sends();
    alters();
    undoes();
    comings();
    outs();
    codes();
    coulds();
    brings();
    meets();
    hanging();
    seeing();
    forgets();
    kindsOf();
    lying();
    slipping();
    evenings();
    keeps();
    goesBack();
    counts();
    finish();
  }
}
