/** The edges that the document names in its fourth part: what was seen, slips, evenings, what is kept and counted. */
public final class EdgesOfEveningsTest extends Checks {
  private static final String NINE_PLAIN = "c0,1,0;c0,1,0;c0,1,1;c0,1,2;c0,1,3;c0,1,4;c0,1,5;c0,1,6;c0,1,7;";

  private static void seenAtMost() {
    about("SEEN (6 at most) is that a ROW from a CHAIR COMES as another one");
    NeedleTelegraph x = laid("c0,1,0;c3,1,0;");
    for (int many = 1; many <= 6; many++) {
      due("see(1, p, u)", x.see(1, 1, 2), many);
      due("count(6)", x.count(6), many);
    }
    due("lies(), all six are so", x.lies(), 512 + 1);
    due("see(1, p, p), the seventh", x.see(1, 1, 1), FULL);
    due("count(6)", x.count(6), 6);
    due("lies(), the seventh is not seen", x.lies(), 512 + 1);
    due("forget()", x.forget(), 6);
    due("count(6)", x.count(6), 0);
    due("forget() of nothing", x.forget(), 0);
    for (int many = 1; many <= 5; many++) due("see(1, p, u)", x.see(1, 1, 2), many);
    due("see(1, p, p), the sixth", x.see(1, 1, 1), 6);
    due("lies(), the sixth is seen", x.lies(), 0);
    due("see(1, p, u), alike once more", x.see(1, 1, 2), FULL);
  }

  private static void seenAsAnEmptyOne() {
    about("SEEN: how many. BAD (the second ROW may be 0)");
    NeedleTelegraph x = laid(ONE);
    due("see(0, p, empty)", x.see(0, 1, 0), 1);
    due("see(0, empty, p)", x.see(0, 0, 1), BAD);
    due("see(0, empty, empty)", x.see(0, 0, 0), BAD);
    due("see(0, ssssssss, ssssssss)", x.see(0, 65535, 65535), 2);
    due("count(6)", x.count(6), 2);
    due("lies(), nobody makes nothing of it", x.lies(), 0);
    due("kinds(0)", x.kinds(0), 0);
  }

  private static void kindsByAllThatIsSeen() {
    about("KINDS of a CHAIR: those (bits) by which all that is SEEN would be so");
    NeedleTelegraph x = laid("c0,1,0;c3,1,0;c4,1,0;");
    for (int c = 0; c < 3; c++) due("kinds(" + c + "), nothing seen", x.kinds(c), 31);
    x.see(0, row("p"), row("p"));
    due("kinds(0), of p as p", x.kinds(0), 1 + 2);
    due("kinds(1), it is so, she is not on the way", x.kinds(1), 31);
    x.see(0, row("pus"), row("pus"));
    due("kinds(0), of pus as pus too", x.kinds(0), 1);
    x.see(1, row("p"), row("p"));
    due("kinds(0), of her who would be deaf no more", x.kinds(0), 0);
    due("kinds(1)", x.kinds(1), 1 + 2);
    due("kinds(2), not on the way of what is not so", x.kinds(2), 0);
    x.forget();
    x.see(0, row("pus"), row("pu"));
    due("kinds(0), a dropper", x.kinds(0), 2);
    x.forget();
    x.see(0, row("pus"), row("pusu"));
    due("kinds(0), an adder", x.kinds(0), 4);
    x.forget();
    x.see(0, row("pus"), row("ups"));
    due("kinds(0), a deaf one", x.kinds(0), 8);
    x.forget();
    x.see(0, row("puu"), row("pus"));
    due("kinds(0), a spy", x.kinds(0), 16);
    x.forget();
    x.see(0, row("ssssssss"), row("ssssssss"));
    due("kinds(0), all but a dropper", x.kinds(0), 31 - 2);
    x.rain(0);
    due("kinds(0), indoors", x.kinds(0), 31 - 2);
    due("chair(0, 0) stays", x.chair(0, 0), 0);
  }

  private static void liesOfOneAlone() {
    about("LIES: CHAIRS (bits) one of whom alone of another KIND would have it all so; 512 more, if it is so as it is");
    due("lies(), nothing seen, of one", laid(ONE).lies(), 512 + 1);
    due("lies(), nothing seen, of nine", laid(NINE_CHAIRS).lies(), 512 + 511);
    NeedleTelegraph x = laid(ONE);
    x.see(0, row("puu"), row("puu"));
    due("lies(), as it is, by no other kind of one or more than one", x.lies(), 512);
    x.see(0, row("p"), row("u"));
    due("lies(), neither as it is nor by another kind", x.lies(), 0);
    x = laid("c0,1,0;c0,1,0;c0,1,1;c3,1,3;");
    x.see(3, row("p"), row("u"));
    due("lies(), as it is, by no other kind of her", x.lies(), 512 + 7);
    x.see(3, row("s"), row("s"));
    due("lies(), as it is, twice", x.lies(), 512 + 7);
    x.see(2, row("pu"), row("up"));
    due("lies(), by one of three", x.lies(), 7);
    x.see(0, row("p"), row("u"));
    due("lies(), by the last one alone", x.lies(), 1);
    x.see(1, row("p"), row("p"));
    due("lies(), by two of them at one time", x.lies(), 0);
    x.forget();
    x.see(3, row("p"), row("p"));
    due("lies(), by her own", x.lies(), 8);
    x.forget();
    x.see(3, row("s"), row("s"));
    due("lies(), as it is or by another kind of her", x.lies(), 512 + 15);
  }

  private static void slipsByTenths() {
    about("SLIPS of a ROW from a CHAIR: .. by x (0 to 10) of ten .. in lowest terms");
    NeedleTelegraph x = laid(ONE);
    int[] above = {1, 9, 4, 7, 3, 1, 2, 3, 1, 1, 0};
    int[] below = {1, 10, 5, 10, 5, 2, 5, 10, 5, 10, 1};
    for (int tenths = 0; tenths <= 10; tenths++) {
      dueSlips(x, 0, row("pu"), tenths, above[tenths], below[tenths]);
      dueSlips(x, 0, row("p"), tenths, above[tenths], below[tenths]);
      dueSlips(x, 0, row("ssssssss"), tenths, above[tenths], below[tenths]);
    }
    dueSlips(x, 0, 1, -1, BAD, BAD);
    dueSlips(x, 0, 1, 11, BAD, BAD);
  }

  private static void slipsOfEachForHerself() {
    about("each CHAIR on its way leaves out the first STITCH .. for herself");
    NeedleTelegraph x = laid(NINE_PLAIN);
    dueSlips(x, 1, row("pu"), 3, 49, 100);
    dueSlips(x, 2, row("pu"), 5, 1, 8);
    dueSlips(x, 8, row("pu"), 0, 1, 1);
    dueSlips(x, 8, row("pu"), 1, 387420489, 1000000000);
    dueSlips(x, 8, row("pu"), 2, 262144, 1953125);
    dueSlips(x, 8, row("pu"), 5, 1, 512);
    dueSlips(x, 8, row("pu"), 9, 1, 1000000000);
    dueSlips(x, 8, row("pu"), 10, 0, 1);
    dueSlips(x, 8, row("ssssssss"), 9, 1, 1000000000);
    x = laid("c0,1,0;c0,1,1;i0;");
    dueSlips(x, 1, row("pu"), 3, 7, 10);
    dueSlips(x, 0, row("pu"), 3, 7, 10);
  }

  private static void slipsAheadOfWhatSheKnits() {
    about("leaves out the first STITCH ahead of what she KNITS .. that it COMES as it would else");
    NeedleTelegraph adder = laid("c2,1,0;");
    dueSlips(adder, 0, row("uuuuuuuu"), 3, 1, 1);
    dueSlips(adder, 0, row("uuuuuuuu"), 10, 1, 1);
    dueSlips(adder, 0, row("uuuuuuu"), 3, 7, 10);
    dueSlips(adder, 0, row("puuuuuuu"), 3, 7, 10);
    NeedleTelegraph dropper = laid("c1,1,0;");
    dueSlips(dropper, 0, row("pp"), 3, 7, 10);
    dueSlips(dropper, 0, row("ppp"), 3, 1, 1);
    dueSlips(dropper, 0, row("ppu"), 3, 7, 10);
    dueSlips(dropper, 0, row("pppp"), 3, 7, 10);
    dueSlips(dropper, 0, row("pppppp"), 10, 1, 1);
    NeedleTelegraph spy = laid("c4,1,0;");
    dueSlips(spy, 0, row("p"), 4, 3, 5);
    dueSlips(spy, 0, row("sss"), 4, 3, 5);
    // The dropper makes two of three or of two, so that her slip does not tell; the spy's does.
    NeedleTelegraph two = laid("c4,1,0;c1,1,0;");
    dueSlips(two, 1, row("ppp"), 5, 1, 2);
    // Of seven purls two adders make eight with a purl to spare: either may slip, but not both; of six neither may.
    NeedleTelegraph adders = laid("c2,1,0;c2,1,0;");
    dueSlips(adders, 1, row("uuuuuuuu"), 10, 1, 1);
    dueSlips(adders, 1, row("uuuuuuu"), 10, 0, 1);
    dueSlips(adders, 1, row("uuuuuuu"), 5, 3, 4);
    dueSlips(adders, 1, row("uuuuuu"), 5, 1, 4);
  }

  private static int draw(int z, int k) {
    long x = 7919L * z + 6151L * k + 1;
    return (int) (x * x % 65521);
  }

  /** The same evening by calls that the document tells one by one: rain, send, pass. */
  private static void goThroughEvening(NeedleTelegraph x, int z, int n) {
    for (int k = 0; k < n; k++) {
      int draw = draw(z, k);
      int c = draw / 8 % x.count(0);
      if (draw % 8 == 0) x.rain(c);
      if (draw % 8 == 1) x.send(c, (1 + draw / 128 % 3) * 4 + 1 + draw / 512 % 3);
      x.pass(1);
    }
  }

  private static int rowsOut(NeedleTelegraph x) {
    int sum = 0;
    for (int m = 0; m < x.count(1); m++) sum += x.message(m, 1) == 2 ? x.message(m, 3) : 0;
    return sum;
  }

  private static void dueEvening(String text, int before, int z, int n) {
    NeedleTelegraph asked = text.isEmpty() ? new NeedleTelegraph() : laid(text);
    NeedleTelegraph gone = text.isEmpty() ? new NeedleTelegraph() : laid(text);
    if (before > 0) asked.pass(before);
    if (before > 0) gone.pass(before);
    goThroughEvening(gone, z, n);
    String call = "evening(" + z + ", " + n + ", ";
    due(call + "0)", asked.evening(z, n, 0), gone.count(5));
    due(call + "1)", asked.evening(z, n, 1), rowsOut(gone) % 9973);
    due("count(2), it did not go by", asked.count(2), before);
  }

  private static void eveningsAsToldOneByOne() {
    about("An EVENING by z (0 to 9999) of n (1 to 60) MINUTES from now on");
    String[] texts = {"", ONE, "c3,2,0;c0,1,0;c2,3,1;m1,4,sss;", NINE_PLAIN + "m8,0,pus;i0;i4;", ONE + SIX_MESSAGES};
    for (String text : texts) {
      for (int z = 0; z <= 9999; z += z < 40 || z >= 9990 ? 1 : 1327) {
        dueEvening(text, 0, z, 1);
        dueEvening(text, 0, z, 60);
        dueEvening(text, 7, z, 2);
        dueEvening(text, 60, z, 59);
      }
      dueEvening(text, 0, 9999, 1);
      dueEvening(text, 0, 9999, 60);
    }
    NeedleTelegraph x = laid(ONE + "m0,7,pu;m0,8,s;");
    x.pass(7);
    due("evening(1, 1, 0), one begins in its minute", x.evening(1, 1, 0), 1);
    due("evening(1, 1, 1)", x.evening(1, 1, 1), row("pu"));
    due("evening(1, 2, 0), the other in the next", x.evening(1, 2, 0), 2);
    x = laid(ONE);
    for (int what = 0; what <= 1; what++) {
      due("evening(-1, 1, " + what + ")", x.evening(-1, 1, what), BAD);
      due("evening(10000, 1, " + what + ")", x.evening(10000, 1, what), BAD);
      due("evening(0, 0, " + what + ")", x.evening(0, 0, what), BAD);
      due("evening(0, 61, " + what + ")", x.evening(0, 61, what), BAD);
    }
  }

  private static void eveningsOfSixMessages() {
    about("is sent at her, if it can be");
    due("draw of z = 0 ahead of the first minute", draw(0, 0), 1);
    for (int told = 0; told <= 6; told++) {
      NeedleTelegraph x = laid(ONE + SIX_MESSAGES.substring(0, 7 * told));
      due("evening(0, 1, 0), told " + told, x.evening(0, 1, 0), Math.min(told + 1, 6));
      due("evening(0, 1, 1), told " + told, x.evening(0, 1, 1), told + (told < 6 ? row("pp") : 0));
      due("count(1), none more is there", x.count(1), told);
      due("evening(1, 1, 1), nothing is left of the one before", x.evening(1, 1, 1), told);
    }
  }

  private static void eveningsSumsModulo() {
    about("what their ROWS are in sum, modulo 9973");
    due("draw of z = 1 ahead of the first minute, by which nothing comes about", draw(1, 0) % 8, 3);
    due("row(upusspp)", row("upusspp"), 9973);
    due("evening(1, 1, 1) of 9957 and 15", laid(ONE + "m0,0,upusupp;m0,0,ss;").evening(1, 1, 1), 9972);
    due("evening(1, 1, 1) of 9973", laid(ONE + "m0,0,upusspp;").evening(1, 1, 1), 0);
    due("evening(1, 1, 1) of 9974", laid(ONE + "m0,0,upusspu;").evening(1, 1, 1), 1);
    due("evening(1, 1, 1) of none", laid(ONE + "m0,1,upusspu;").evening(1, 1, 1), 0);
    due("evening(1, 1, 1) of the most", laid(ONE + SIX_MESSAGES.replace("p", "ssssssss")).evening(1, 1, 1),
        6 * 65535 % 9973);
  }

  private static void keptAtMost() {
    about("KEPT is all as it stands .. 2 at most");
    NeedleTelegraph x = laid("c0,9,0;m0,0,p;");
    due("keep()", x.keep(), 1);
    x.pass(1);
    due("keep()", x.keep(), 2);
    x.pass(1);
    due("keep(), the third", x.keep(), FULL);
    due("count(8)", x.count(8), 2);
    due("back()", x.back(), 1);
    due("count(2), as kept last", x.count(2), 1);
    due("count(8)", x.count(8), 1);
    x.pass(5);
    due("keep() in its place", x.keep(), 2);
    x.pass(5);
    due("back()", x.back(), 1);
    due("count(2)", x.count(2), 6);
    dueMessage(x, 0, 0, 1, 0, 1, 3, NONE);
    due("back()", x.back(), 0);
    due("count(2)", x.count(2), 0);
    dueMessage(x, 0, 0, 0, 0, 1, 0, NONE);
    due("back(), none is kept", x.back(), NO);
    due("count(8)", x.count(8), 0);
  }

  private static void keptAllAsItStands() {
    about("KEPT is all as it stands");
    NeedleTelegraph x = laid("c0,5,0;c0,1,0;m0,0,p;m1,0,s;m1,2,u;i1;");
    x.pass(1);
    x.keep();
    x.rain(0);
    x.rain(1);
    x.alter(0, 27);
    x.send(1, 2);
    x.pass(60);
    due("back()", x.back(), 0);
    dueCounts(x, 2, 3, 1, 1, 2, 0, 0, 0, 0);
    dueChair(x, 0, 0, 5, 0, 0, 1);
    dueChair(x, 1, 0, 1, 0, 1, 1);
    dueMessage(x, 0, 0, 1, 0, 1, 4, NONE);
    dueMessage(x, 1, 0, 1, 1, 3, 0, NONE);
    dueMessage(x, 2, 2, 0, 1, 2, 0, NONE);
    due("message(3, 0), sent behind it", x.message(3, 0), BAD);
  }

  private static void keptWhenItWasOut() {
    about("KEPT is all as it stands");
    NeedleTelegraph x = laid("c3,2,0;m0,0,pu;");
    x.pass(2);
    x.keep();
    due("undo() of its minutes", x.undo(), 0);
    x.rain(0);
    x.pass(3);
    x.rain(0);
    x.pass(1);
    x.alter(0, row("ss"));
    x.pass(1);
    dueMessage(x, 0, 0, 2, 0, row("ss"), 0, 4);
    due("back()", x.back(), 0);
    dueMessage(x, 0, 0, 2, 0, row("up"), 0, 1);
  }

  private static void keptButWhatIsSeenAndTheText() {
    about("but what is SEEN and THE TEXT (these stay by back(), behind which nothing can be UNDONE)");
    NeedleTelegraph x = laid(ONE);
    x.see(0, 1, 1);
    x.rain(0);
    due("keep()", x.keep(), 1);
    due("count(7), what was can be undone yet", x.count(7), 1);
    x.see(0, 1, 2);
    x.write('x');
    x.rain(0);
    due("count(7)", x.count(7), 2);
    due("back()", x.back(), 0);
    dueCounts(x, 1, 0, 0, 1, 0, 0, 2, 0, 0, 8);
    due("undo()", x.undo(), NO);
    due("chair(0, 3)", x.chair(0, 3), 1);
    due("lies(), both are seen", x.lies(), 0);
    due("fault(), the letter is there", x.fault(), 7);
    x.keep();
    x.forget();
    x.wipe();
    due("back()", x.back(), 0);
    due("count(6), forgotten", x.count(6), 0);
    due("count(9), wiped", x.count(9), 0);
    x.rain(0);
    due("back(), none is kept", x.back(), NO);
    due("count(7), it can be undone yet", x.count(7), 1);
    due("undo()", x.undo(), 0);
    x.keep();
    due("undo() of nothing behind keep()", x.undo(), NO);
    x.pass(1);
    due("undo() of a minute behind keep()", x.undo(), 0);
    due("count(8)", x.count(8), 1);
  }

  private static void countsFromNoneToMost() {
    about("count: How many: 0 CHAIRS .. 9 letters of THE TEXT. BAD");
    NeedleTelegraph x = laid(ONE);
    dueCounts(x, 1, 0, 0, 0, 0, 0, 0, 0, 0, 7);
    String text = NINE_CHAIRS.replaceAll(",[0-9],", ",20,") + SIX_MESSAGES + "i0;i1;i2;i3;i4;i5;i6;i7;i8;";
    x = laid(text);
    for (int i = 0; i < 6; i++) x.see(0, 1, 1);
    for (int i = 0; i < 9; i++) x.pass(60);
    x.keep();
    x.keep();
    for (int i = text.length(); i < 200; i++) x.write(' ');
    dueCounts(x, 9, 6, 540, 9, 6, 0, 6, 8, 2, 200, BAD);
    due("count(-1)", x.count(-1), BAD);
    x.rain(0);
    x.pass(60);
    dueCounts(x, 9, 6, 600, 8, 0, 6, 6, 8, 2, 200, BAD);
  }

  public static void main(String[] args) {
    seenAtMost();
    seenAsAnEmptyOne();
    kindsByAllThatIsSeen();
    liesOfOneAlone();
    slipsByTenths();
    slipsOfEachForHerself();
    slipsAheadOfWhatSheKnits();
    eveningsAsToldOneByOne();
    eveningsOfSixMessages();
    eveningsSumsModulo();
    keptAtMost();
    keptAllAsItStands();
    keptWhenItWasOut();
    keptButWhatIsSeenAndTheText();
    countsFromNoneToMost();
    finish();
  }
}
