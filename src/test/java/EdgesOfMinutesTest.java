/** The edges that the document names in its second part: minutes that go by, what is changed between them, and undone. */
public final class EdgesOfMinutesTest extends Checks {
  private static void pass(NeedleTelegraph x, int n, int out) {
    due("pass(" + n + ")", x.pass(n), out);
  }

  private static void firstMinute() {
    about("At first it is minute 0");
    due("count(2) of a new object", new NeedleTelegraph().count(2), 0);
    NeedleTelegraph x = laid(ONE + "m0,0,p;");
    due("count(2) of one laid", x.count(2), 0);
    dueMessage(x, 0, 0, 0, 0, 1, 0, NONE);
  }

  private static void beginsInItsMinute() {
    about("if it begins in it, it is at its CHAIR");
    NeedleTelegraph x = laid("c0,20,0;m0,0,p;m0,1,u;m0,99,s;");
    dueMessage(x, 0, 0, 0, 0, 1, 0, NONE);
    pass(x, 1, 0);
    dueMessage(x, 0, 0, 1, 0, 1, 19, NONE);
    dueMessage(x, 1, 1, 0, 0, 2, 0, NONE);
    pass(x, 1, 0);
    dueMessage(x, 1, 1, 1, 0, 2, 19, NONE);
    pass(x, 60, 2);
    pass(x, 37, 2);
    due("count(2)", x.count(2), 99);
    dueMessage(x, 2, 99, 0, 0, 3, 0, NONE);
    pass(x, 1, 2);
    dueMessage(x, 2, 99, 1, 0, 3, 19, NONE);
    pass(x, 18, 2);
    dueMessage(x, 2, 99, 1, 0, 3, 1, NONE);
    pass(x, 1, 3);
    dueMessage(x, 2, 99, 2, 0, 3, 0, 118);
  }

  private static void waitsForHerWhoIsIndoors() {
    about("if it is at a CHAIR who has not begun it, and is not INDOORS, she begins it");
    NeedleTelegraph x = laid("c0,2,0;m0,1,p;i0;");
    pass(x, 1, 0);
    dueMessage(x, 0, 1, 0, 0, 1, 0, NONE);
    pass(x, 1, 0);
    dueMessage(x, 0, 1, 1, 0, 1, 0, NONE);
    due("chair(0, 4), it is at her all the same", x.chair(0, 4), 1);
    pass(x, 60, 0);
    dueMessage(x, 0, 1, 1, 0, 1, 0, NONE);
    x.rain(0);
    dueMessage(x, 0, 1, 1, 0, 1, 0, NONE);
    pass(x, 1, 0);
    dueMessage(x, 0, 1, 1, 0, 1, 1, NONE);
    pass(x, 1, 1);
    dueMessage(x, 0, 1, 2, 0, 1, 0, 63);
    x = laid("c0,1,0;c0,1,0;m1,0,p;i0;");
    pass(x, 60, 0);
    dueMessage(x, 0, 0, 1, 0, 1, 0, NONE);
  }

  private static void goesOnIndoors() {
    about("if she has begun it (be she INDOORS by now or not), it is a minute nearer");
    NeedleTelegraph x = laid("c0,20,0;m0,0,p;m0,1,u;");
    pass(x, 1, 0);
    x.rain(0);
    for (int left = 18; left >= 1; left--) {
      pass(x, 1, 0);
      due("message(0, 4)", x.message(0, 4), left);
    }
    pass(x, 1, 1);
    dueMessage(x, 0, 0, 2, 0, 1, 0, 19);
    dueMessage(x, 1, 1, 1, 0, 2, 0, NONE);
  }

  private static void behindHerMinutes() {
    about("behind her P minutes its ROW is what she KNITS of it");
    for (int pace = 1; pace <= 20; pace++) {
      NeedleTelegraph x = laid("c3," + pace + ",0;m0,0,pu;");
      if (pace > 1) pass(x, pace - 1, 0);
      dueMessage(x, 0, 0, pace > 1 ? 1 : 0, 0, row("pu"), pace > 1 ? 1 : 0, NONE);
      pass(x, 1, 1);
      dueMessage(x, 0, 0, 2, 0, row("up"), 0, pace - 1);
    }
  }

  private static void nextMinuteAtTheEarliest() {
    about("it is at the CHAIR to whom she knits on, not begun (in the next MINUTE at the earliest)");
    NeedleTelegraph x = laid("c0,1,0;c2,1,0;c2,1,1;m2,0,p;m1,0,p;m0,0,p;m2,1,p;");
    pass(x, 1, 1);
    dueMessage(x, 0, 0, 1, 1, row("pu"), 0, NONE);
    dueMessage(x, 1, 0, 1, 0, row("pu"), 0, NONE);
    dueMessage(x, 2, 0, 2, 0, row("p"), 0, 0);
    dueMessage(x, 3, 1, 0, 2, row("p"), 0, NONE);
    pass(x, 1, 2);
    dueMessage(x, 0, 0, 1, 0, row("puu"), 0, NONE);
    dueMessage(x, 1, 0, 2, 0, row("pu"), 0, 1);
    dueMessage(x, 3, 1, 1, 1, row("pu"), 0, NONE);
    pass(x, 1, 3);
    dueMessage(x, 0, 0, 2, 0, row("puu"), 0, 2);
    pass(x, 1, 4);
    dueMessage(x, 3, 1, 2, 0, row("puu"), 0, 3);
  }

  private static void outAtTheSea() {
    about("or OUT, if she sits at the SEA");
    NeedleTelegraph x = laid("c0,1,0;c4,2,1;m1,0,pu;m0,0,u;");
    pass(x, 60, 2);
    dueMessage(x, 0, 0, 2, 1, row("ps"), 0, 1);
    dueMessage(x, 1, 0, 2, 0, row("u"), 0, 0);
    due("chair(1, 4), it is at her no more", x.chair(1, 4), 0);
    pass(x, 60, 2);
    dueMessage(x, 0, 0, 2, 1, row("ps"), 0, 1);
    due("count(4)", x.count(4), 0);
    due("count(5)", x.count(5), 2);
  }

  private static void manyAtOneChair() {
    about("In a MINUTE each MESSAGE, 0 first");
    NeedleTelegraph x = laid("c0,2,0;" + SIX_MESSAGES);
    pass(x, 1, 0);
    due("chair(0, 4), all at her", x.chair(0, 4), 6);
    for (int m = 0; m < 6; m++) due("message(" + m + ", 4)", x.message(m, 4), 1);
    pass(x, 1, 6);
    for (int m = 0; m < 6; m++) due("message(" + m + ", 5)", x.message(m, 5), 1);
  }

  private static void minutesAtOneTime() {
    about("n MINUTES (1 to 60) go by: how many MESSAGES are OUT");
    for (int n = -1; n <= 62; n++) {
      NeedleTelegraph x = laid("c0,20,0;m0,0,p;m0,10,p;m0,40,p;m0,41,p;");
      boolean well = n >= 1 && n <= 60;
      int out = n < 20 ? 0 : n < 30 ? 1 : n < 60 ? 2 : 3;
      due("pass(" + n + ")", x.pass(n), well ? out : BAD);
      due("count(2)", x.count(2), well ? n : 0);
      due("count(7)", x.count(7), well ? 1 : 0);
    }
  }

  private static void inAndOut() {
    about("A CHAIR goes INDOORS, or comes out: 1 if INDOORS then, 0");
    NeedleTelegraph x = laid(NINE_CHAIRS);
    for (int c = 0; c < 9; c++) {
      due("rain(" + c + ")", x.rain(c), 1);
      due("count(3)", x.count(3), c + 1);
    }
    for (int c = 0; c < 9; c++) {
      due("rain(" + c + ") once more", x.rain(c), 0);
      due("chair(" + c + ", 3)", x.chair(c, 3), 0);
      due("count(3)", x.count(3), 8 - c);
    }
    due("rain(9)", x.rain(9), BAD);
    due("count(3)", x.count(3), 0);
  }

  private static void sentInTheNextMinute() {
    about("a MESSAGE more is sent: it begins in the next MINUTE");
    NeedleTelegraph x = laid("c0,2,0;c0,1,0;");
    due("send(1, 6) ahead of the first minute", x.send(1, 6), 0);
    dueMessage(x, 0, 0, 0, 1, 6, 0, NONE);
    pass(x, 1, 0);
    dueMessage(x, 0, 0, 1, 0, 6, 0, NONE);
    pass(x, 60, 1);
    due("send(0, 1)", x.send(0, 1), 1);
    dueMessage(x, 1, 61, 0, 0, 1, 0, NONE);
    due("chair(0, 4), it is not at her yet", x.chair(0, 4), 0);
    pass(x, 1, 1);
    dueMessage(x, 1, 61, 1, 0, 1, 1, NONE);
    x.rain(0);
    due("send(0, 65535) at her who is indoors", x.send(0, 65535), 2);
    pass(x, 1, 2);
    dueMessage(x, 2, 62, 1, 0, 65535, 0, NONE);
  }

  private static void sentAtMost() {
    about("(6 in all)");
    for (int told = 0; told <= 6; told++) {
      NeedleTelegraph x = laid(ONE + SIX_MESSAGES.substring(0, 7 * told));
      for (int m = told; m < 6; m++) due("send(0, 2), told " + told, x.send(0, 2), m);
      due("send(0, 2), the seventh", x.send(0, 2), FULL);
      due("count(1)", x.count(1), 6);
      due("count(7)", x.count(7), 6 - told);
      pass(x, 1, 6);
      due("send(0, 2), all out", x.send(0, 2), FULL);
      due("undo() of the minute", x.undo(), 6 - told);
      if (told < 6) {
        due("undo() of the sixth", x.undo(), 5 - told);
        due("send(0, 3) in its place", x.send(0, 3), 5);
        due("message(5, 3)", x.message(5, 3), 3);
      }
    }
  }

  private static void alteredAtAChair() {
    about("the ROW of one that is at a CHAIR is changed");
    NeedleTelegraph x = laid("c3,2,0;c0,1,0;m1,1,pu;i0;");
    due("alter(0, 1), not begun yet", x.alter(0, 1), NO);
    pass(x, 1, 0);
    due("alter(0, 1) between its minute and the one ahead", x.alter(0, 1), NO);
    pass(x, 1, 0);
    due("alter(0, 1), at her who is indoors", x.alter(0, 1), 6);
    due("alter(0, 65535)", x.alter(0, 65535), 1);
    due("alter(0, 7)", x.alter(0, 7), 65535);
    due("alter(0, 7) by the same", x.alter(0, 7), 7);
    due("count(7), that can be undone, too", x.count(7), 6);
    dueMessage(x, 0, 1, 1, 0, 7, 0, NONE);
    x.rain(0);
    pass(x, 1, 0);
    due("alter(0, 27), she has begun it", x.alter(0, 27), 7);
    dueMessage(x, 0, 1, 1, 0, 27, 1, NONE);
    pass(x, 1, 1);
    due("message(0, 3), what she knits of the new one", x.message(0, 3), 39);
    due("alter(0, 1), out", x.alter(0, 1), NO);
    due("message(0, 3) stays", x.message(0, 3), 39);
  }

  private static void undoneOneByOne() {
    about("UNDONE are the latest of these, of MINUTES");
    NeedleTelegraph x = laid("c0,3,0;m0,0,p;m0,2,u;");
    due("undo() of nothing", x.undo(), NO);
    x.pass(1);
    x.rain(0);
    x.send(0, 3);
    x.alter(0, 6);
    due("count(7)", x.count(7), 4);
    due("undo() of alter", x.undo(), 3);
    due("message(0, 3)", x.message(0, 3), 1);
    due("count(1), the one sent is there yet", x.count(1), 3);
    due("undo() of send", x.undo(), 2);
    due("count(1)", x.count(1), 2);
    due("message(2, 0)", x.message(2, 0), BAD);
    due("chair(0, 3), she is indoors yet", x.chair(0, 3), 1);
    due("undo() of rain", x.undo(), 1);
    due("chair(0, 3)", x.chair(0, 3), 0);
    due("message(0, 1), it is at her yet", x.message(0, 1), 1);
    due("undo() of the minute", x.undo(), 0);
    dueMessage(x, 0, 0, 0, 0, 1, 0, NONE);
    due("count(2)", x.count(2), 0);
    due("undo() of nothing more", x.undo(), NO);
    due("count(7)", x.count(7), 0);
  }

  private static void undoneAtOneTime() {
    about("(all that go by at one time are one");
    NeedleTelegraph x = laid("c0,20,0;m0,0,p;m0,41,p;");
    x.pass(60);
    x.pass(1);
    due("count(7)", x.count(7), 2);
    dueMessage(x, 1, 41, 2, 0, 1, 0, 60);
    due("undo() of one minute", x.undo(), 1);
    due("count(2)", x.count(2), 60);
    dueMessage(x, 0, 0, 2, 0, 1, 0, 19);
    dueMessage(x, 1, 41, 1, 0, 1, 1, NONE);
    due("undo() of sixty", x.undo(), 0);
    due("count(2)", x.count(2), 0);
    dueMessage(x, 0, 0, 0, 0, 1, 0, NONE);
    dueMessage(x, 1, 41, 0, 0, 1, 0, NONE);
  }

  private static void undoneAtMost() {
    about("the last 8 can be)");
    for (int many = 1; many <= 20; many++) {
      NeedleTelegraph x = laid("c0,1,0;");
      for (int i = 1; i <= many; i++) x.pass(i);
      int most = Math.min(many, 8);
      due("count(7) behind " + many, x.count(7), most);
      for (int left = most - 1; left >= 0; left--) due("undo() of " + many, x.undo(), left);
      due("undo() once more", x.undo(), NO);
      int first = many - most;
      due("count(2), the oldest stay as they are", x.count(2), first * (first + 1) / 2);
    }
  }

  private static void undoneAtMostOfAllKinds() {
    about("the last 8 can be)");
    NeedleTelegraph x = laid("c0,9,0;c0,1,0;m0,0,p;");
    x.pass(1);
    x.rain(1);
    x.send(1, 2);
    x.alter(0, 3);
    x.pass(2);
    x.rain(1);
    x.send(1, 3);
    x.alter(0, 5);
    due("count(7) behind eight", x.count(7), 8);
    x.pass(3);
    due("count(7) behind nine", x.count(7), 8);
    due("undo()", x.undo(), 7);
    due("count(7) behind that", x.count(7), 7);
    x.rain(0);
    due("count(7) behind one more", x.count(7), 8);
    for (int left = 7; left >= 0; left--) due("undo()", x.undo(), left);
    due("undo() of the first minute, no more can be", x.undo(), NO);
    dueCounts(x, 2, 1, 1, 0, 1, 0, 0, 0, 0);
    dueMessage(x, 0, 0, 1, 0, 1, 8, NONE);
    x.pass(1);
    due("undo() of a new one", x.undo(), 0);
  }

  private static void whatIsNotUndone() {
    about("UNDONE are the latest of these, of MINUTES");
    NeedleTelegraph x = laid(ONE + "m0,5,p;");
    x.pass(1);
    x.see(0, 1, 1);
    x.see(0, 1, 2);
    x.forget();
    x.see(0, 1, 3);
    x.wipe();
    x.write('c');
    x.keep();
    x.evening(5, 60, 0);
    x.meet(0, 0);
    x.out(0, 0);
    x.bring(0);
    x.pass(0);
    x.pass(61);
    x.rain(1);
    x.rain(-1);
    x.send(0, 0);
    x.send(1, 1);
    x.alter(0, 2);
    x.alter(1, 2);
    due("count(7), nothing more can be", x.count(7), 1);
    due("undo() of the minute", x.undo(), 0);
    dueCounts(x, 1, 1, 0, 0, 0, 0, 1, 0, 1, 1);
    due("undo() of nothing", x.undo(), NO);
    dueCounts(x, 1, 1, 0, 0, 0, 0, 1, 0, 1, 1);
  }

  private static void tellsWhereAMessageIs() {
    about("at which CHAIR (2; before: where it will begin; OUT: the last one)");
    NeedleTelegraph x = laid("c0,1,0;c0,2,0;c0,1,1;m2,1,p;");
    int[] chairs = {2, 2, 1, 1, 0, 0, 0};
    int[] states = {0, 0, 1, 1, 1, 2, 2};
    int[] left = {0, 0, 0, 1, 0, 0, 0};
    for (int minute = 0; minute < chairs.length; minute++) {
      dueMessage(x, 0, 1, states[minute], chairs[minute], 1, left[minute], states[minute] == 2 ? 4 : NONE);
      for (int c = 0; c < 3; c++) {
        due("chair(" + c + ", 4)", x.chair(c, 4), states[minute] == 1 && chairs[minute] == c ? 1 : 0);
      }
      x.pass(1);
    }
    about("in which minute it was OUT (5; the first one is 0; NONE)");
    x = laid(ONE + "m0,0,p;m0,1,p;");
    x.pass(1);
    due("message(0, 5), out in the first", x.message(0, 5), 0);
    due("message(1, 5), not out", x.message(1, 5), NONE);
    x.pass(1);
    due("message(1, 5), out in the second", x.message(1, 5), 1);
  }

  private static void asManyCallsAsThereCanBe() {
    about("An object is used for at most 512 calls after it has been made");
    NeedleTelegraph x = new NeedleTelegraph();
    for (int call = 1; call <= 510; call++) due("pass(60), call " + call, x.pass(60), 2);
    due("count(2)", x.count(2), 510 * 60);
    due("count(7), the last call", x.count(7), 8);
  }

  public static void main(String[] args) {
    firstMinute();
    beginsInItsMinute();
    waitsForHerWhoIsIndoors();
    goesOnIndoors();
    behindHerMinutes();
    nextMinuteAtTheEarliest();
    outAtTheSea();
    manyAtOneChair();
    minutesAtOneTime();
    inAndOut();
    sentInTheNextMinute();
    sentAtMost();
    alteredAtAChair();
    undoneOneByOne();
    undoneAtOneTime();
    undoneAtMost();
    undoneAtMostOfAllKinds();
    whatIsNotUndone();
    tellsWhereAMessageIs();
    asManyCallsAsThereCanBe();
    finish();
  }
}
