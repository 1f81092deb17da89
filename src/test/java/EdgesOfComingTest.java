/** The edges that the document names in its third part: what comes, when, by which row, whom to bring out, who meets. */
public final class EdgesOfComingTest extends Checks {
  private static void allIndoors(NeedleTelegraph x, int chairs) {
    for (int c = 0; c < chairs; c++) x.rain(c);
  }

  private static void comesWereNobodyIndoors() {
    about("COMES of a ROW from a CHAIR: what is OUT of it, begun there; in how many MINUTES, were nobody INDOORS");
    NeedleTelegraph x = laid("c0,1,0;c1,20,0;c2,3,1;c3,4,2;c4,5,4;");
    for (int time = 0; time < 2; time++) {
      due("comes(0, p, 0)", x.comes(0, row("p"), 0), row("p"));
      due("comes(0, p, 1), the fewest", x.comes(0, row("p"), 1), 1);
      due("comes(1, pus, 0)", x.comes(1, row("pus"), 0), row("pu"));
      due("comes(1, pus, 1)", x.comes(1, row("pus"), 1), 21);
      due("comes(3, pu, 0)", x.comes(3, row("pu"), 0), row("up"));
      due("comes(3, pu, 1)", x.comes(3, row("pu"), 1), 28);
      due("comes(3, pppppppp, 0)", x.comes(3, row("pppppppp"), 0), row("uuuuuu"));
      due("comes(4, pu, 0), of her own sea", x.comes(4, row("pu"), 0), row("ps"));
      due("comes(4, pu, 1)", x.comes(4, row("pu"), 1), 5);
      allIndoors(x, 5);
    }
    x = laid(SLOW + "c0,20,7;m8,0,p;");
    due("comes(8, p, 1), the most", x.comes(8, 1, 1), 180);
    x.pass(60);
    due("comes(8, p, 1) at any time", x.comes(8, 1, 1), 180);
  }

  private static void outBehindAMinuteAtLeast() {
    about("OUT of a MESSAGE: behind how many MINUTES (1 to 240) it is; its ROW then");
    NeedleTelegraph x = laid("c3,1,0;m0,0,p;");
    due("out(0, 0), the fewest", x.out(0, 0), 1);
    due("out(0, 1)", x.out(0, 1), row("u"));
    x.pass(1);
    due("out(0, 0), it is out", x.out(0, 0), NO);
    due("out(0, 1), it is out", x.out(0, 1), NO);
    x = laid("c0,20,0;m0,0,p;");
    for (int left = 20; left >= 1; left--) {
      due("out(0, 0)", x.out(0, 0), left);
      x.pass(1);
    }
    due("out(0, 0), it is out", x.out(0, 0), NO);
    x = laid("c0,1,0;m0,99,p;");
    due("out(0, 0) of the latest", x.out(0, 0), 100);
    x.pass(60);
    due("out(0, 0) sixty minutes on", x.out(0, 0), 40);
  }

  private static void outAtMost() {
    about("OUT of a MESSAGE: behind how many MINUTES (1 to 240) it is; its ROW then");
    NeedleTelegraph x = laid(SLOW + "m7,79,p;m7,80,u;m7,81,s;m7,99,p;");
    due("out(0, 0)", x.out(0, 0), 239);
    due("out(1, 0)", x.out(1, 0), 240);
    due("out(1, 1)", x.out(1, 1), 2);
    due("out(2, 0)", x.out(2, 0), NONE);
    due("out(2, 1)", x.out(2, 1), NONE);
    due("out(3, 0)", x.out(3, 0), NONE);
    x.pass(1);
    due("out(2, 0), a minute on", x.out(2, 0), 240);
    due("out(2, 1), a minute on", x.out(2, 1), 3);
    x.pass(18);
    due("out(3, 0), nineteen minutes on", x.out(3, 0), 240);
    x.undo();
    due("out(3, 0), eighteen of them undone", x.out(3, 0), NONE);
  }

  private static void outIsNot() {
    about("none (it is not by then)");
    NeedleTelegraph x = laid("c0,2,0;c0,2,0;c0,1,2;m1,0,p;i0;");
    due("out(0, 0), the last one is indoors", x.out(0, 0), NONE);
    due("out(0, 1)", x.out(0, 1), NONE);
    x.rain(0);
    x.rain(1);
    due("out(0, 0), the first one is indoors", x.out(0, 0), NONE);
    x.rain(1);
    x.rain(2);
    due("out(0, 0), one not on its way is indoors", x.out(0, 0), 4);
    x.pass(1);
    x.rain(1);
    due("out(0, 0), she has begun it", x.out(0, 0), 3);
    x.pass(1);
    due("out(0, 0), she is behind it", x.out(0, 0), 2);
    x.rain(0);
    due("out(0, 0), the next has not begun it", x.out(0, 0), NONE);
    x.rain(0);
    x.pass(1);
    x.rain(0);
    due("out(0, 0), the last one has begun it", x.out(0, 0), 1);
    due("out(0, 1)", x.out(0, 1), 1);
    x.alter(0, 27);
    due("out(0, 1), altered", x.out(0, 1), 27);
    x.pass(1);
    due("out(0, 0)", x.out(0, 0), NO);
  }

  private static void codesOfOneToFour() {
    about("CODE for a CHAIR, a ROW: of ROWS of 1 to 4 STITCHES that, from there, COME as that one");
    NeedleTelegraph x = laid(ONE);
    int found = 0;
    for (int row = 1; row < 1024; row++) {
      if (!isRow(row)) continue;
      due("code(0, " + row + ")", x.code(0, row), row < 256 ? row : NONE);
      found += row < 256 ? 1 : 0;
    }
    due("how many rows of 1 to 4 there are", found, 3 + 9 + 27 + 81);
    x = laid("c2,1,0;i0;");
    due("code(0, pu), of one", x.code(0, row("pu")), row("p"));
    due("code(0, ppppu), of four, of her who is indoors", x.code(0, row("ppppu")), row("pppp"));
    due("code(0, pppppu), of five", x.code(0, row("pppppu")), NONE);
    due("code(0, u), of none", x.code(0, row("u")), NONE);
    due("code(0, empty)", x.code(0, 0), NONE);
    x = laid("c1,1,0;");
    due("code(0, empty)", x.code(0, 0), NONE);
  }

  private static void codesShortestAndLowest() {
    about("the shortest, of several the lowest; none");
    NeedleTelegraph x = laid("c1,1,0;c4,1,1;c4,1,0;");
    due("code(0, pu), of pu, pup, puu, pus", x.code(0, row("pu")), row("pu"));
    due("code(0, ppp), of pppp, ppup, ppsp", x.code(0, row("ppp")), row("pppp"));
    due("code(0, ups), of upps, upus, upss", x.code(0, row("ups")), row("upps"));
    due("code(0, pppp), of five alone", x.code(0, row("pppp")), NONE);
    due("code(1, s), of p, u, s", x.code(1, row("s")), row("p"));
    due("code(1, pps), of ppp, ppu, pps", x.code(1, row("pps")), row("ppp"));
    due("code(1, ppp)", x.code(1, row("ppp")), NONE);
    // A spy ahead of the dropper: ps is of pp, pu, ps, whose slip stays, and of psp, psu, pss, whose slip is left out.
    due("code(2, ps)", x.code(2, row("ps")), row("pp"));
    due("code(2, pu), of three alone", x.code(2, row("pu")), row("pup"));
  }

  private static void couldOfOneToFive() {
    about("COULD: how many ROWS of 1 to 5 STITCHES do");
    NeedleTelegraph x = laid(ONE);
    for (int row = 1; row < 1024; row++) {
      if (isRow(row)) due("could(0, " + row + ")", x.could(0, row), 1);
    }
    due("could(0, pppppp), of six", x.could(0, row("pppppp")), 0);
    due("could(0, ssssss), of six", x.could(0, row("ssssss")), 0);
    due("could(0, empty)", x.could(0, 0), 0);
    x = laid("c2,1,0;c1,1,1;c4,1,2;i0;i1;");
    due("could(0, u), of none", x.could(0, row("u")), 0);
    due("could(0, pu), of one", x.could(0, row("pu")), 1);
    due("could(0, pppppu), of five", x.could(0, row("pppppu")), 1);
    due("could(0, ppppppu), of six", x.could(0, row("ppppppu")), 0);
    due("could(1, p)", x.could(1, row("p")), 1);
    due("could(1, pp), of pp, ppp, ppu, pps", x.could(1, row("pp")), 4);
    due("could(1, pppp), of five, not of six", x.could(1, row("pppp")), 3);
    due("could(1, empty)", x.could(1, 0), 0);
    due("could(2, s)", x.could(2, row("s")), 3);
    due("could(2, pppps)", x.could(2, row("pppps")), 3);
    due("could(2, ppppps)", x.could(2, row("ppppps")), 0);
  }

  private static void dueBring(NeedleTelegraph x, String when, int many, int which) {
    due("bring(0), " + when, x.bring(0), many);
    due("bring(1), " + when, x.bring(1), which);
  }

  private static void bringsOfThoseIndoors() {
    about("BRING: of sets of CHAIRS that are INDOORS such that, came all of them out now, all MESSAGES told or sent would be OUT");
    NeedleTelegraph x = laid("c0,2,0;c0,1,0;c0,1,1;c0,1,3;c0,1,4;m2,5,p;");
    dueBring(x, "nobody indoors", 0, 0);
    x.rain(3);
    dueBring(x, "one indoors by whom none goes", 0, 0);
    x.rain(2);
    dueBring(x, "one on the way", 1, 4);
    x.rain(0);
    dueBring(x, "two of three on the way", 2, 4 + 1);
    x.rain(1);
    dueBring(x, "all on the way", 3, 4 + 2 + 1);
    x.send(4, 1);
    dueBring(x, "one more sent, by a way without rain", 3, 7);
    x.send(3, 1);
    dueBring(x, "one more sent, by one indoors", 4, 8 + 7);
    x.undo();
    dueBring(x, "undone", 3, 7);
    due("count(3), nobody came out by it", x.count(3), 4);
    x = laid(NINE_CHAIRS + "m8,0,p;m7,0,p;");
    allIndoors(x, 9);
    dueBring(x, "two ways to the sea", 9, 511);
    x = laid(ONE + "i0;");
    dueBring(x, "no messages", 0, 0);
  }

  private static void bringsNoneWhoHasBegun() {
    about("if she has begun it (be she INDOORS by now or not)");
    NeedleTelegraph x = laid("c0,2,0;c0,2,0;m1,0,p;");
    x.pass(1);
    x.rain(1);
    dueBring(x, "she has begun the only one", 0, 0);
    x.send(1, 1);
    dueBring(x, "another is not begun", 1, 2);
    x.undo();
    x.rain(0);
    dueBring(x, "the next has not begun it", 1, 1);
    x.pass(60);
    dueBring(x, "it waits for her", 1, 1);
    x.rain(0);
    x.pass(2);
    due("count(5)", x.count(5), 1);
    x.rain(0);
    dueBring(x, "all are out", 0, 0);
  }

  private static void bringsWithinMinutes() {
    about("would be OUT behind 240 MINUTES");
    NeedleTelegraph x = laid(SLOW + "m7,80,p;i3;");
    dueBring(x, "in 240 minutes", 1, 8);
    x = laid(SLOW + "m7,81,p;i3;");
    dueBring(x, "in 241 minutes", NONE, NONE);
    x.rain(3);
    dueBring(x, "in 241 minutes, nobody indoors", NONE, NONE);
    x.pass(1);
    dueBring(x, "a minute on", 0, 0);
    x = laid(SLOW + "m0,0,p;m7,81,p;i0;");
    dueBring(x, "one of two in 241 minutes", NONE, NONE);
    x = laid("c0,1,0;m0,0,p;i0;");
    for (int i = 0; i < 8; i++) x.pass(60);
    dueBring(x, "240 minutes from now on, not from the first", 1, 1);
  }

  private static void meetsNow() {
    about("MEET of two MESSAGES: the fewest MINUTES (0 to 240) behind which both are at one CHAIR");
    NeedleTelegraph x = laid("c0,3,0;c0,1,0;m0,0,p;m1,0,p;m0,2,p;");
    due("meet(0, 1), ahead of the first minute", x.meet(0, 1), 1);
    x.pass(1);
    due("meet(0, 1), now", x.meet(0, 1), 0);
    due("meet(1, 0), now", x.meet(1, 0), 0);
    due("meet(0, 2), out in the minute in which it begins", x.meet(0, 2), NONE);
    due("meet(1, 2)", x.meet(1, 2), 2);
    x.pass(2);
    due("meet(0, 1), one is out", x.meet(0, 1), NONE);
    due("meet(1, 2), now", x.meet(1, 2), 0);
    x.pass(60);
    due("meet(1, 2), both out", x.meet(1, 2), NONE);
    due("count(2), no minutes went by for it", x.count(2), 63);
    x = laid(ONE + "m0,0,p;m0,0,p;i0;");
    due("meet(0, 1), not begun yet though of one chair", x.meet(0, 1), 1);
    x.rain(0);
    due("meet(0, 1), out at once", x.meet(0, 1), NONE);
    x = laid("c0,2,0;c0,2,1;m0,0,p;m1,0,p;");
    due("meet(0, 1), at two seas", x.meet(0, 1), NONE);
  }

  private static void meetsAtMost() {
    about("MEET of two MESSAGES: the fewest MINUTES (0 to 240) behind which both are at one CHAIR");
    NeedleTelegraph x = laid(SLOW + "c0,20,7;m0,0,p;m8,79,p;m8,80,p;m8,81,p;i0;");
    due("meet(0, 1)", x.meet(0, 1), 239);
    due("meet(0, 2)", x.meet(0, 2), 240);
    due("meet(2, 0)", x.meet(2, 0), 240);
    due("meet(0, 3)", x.meet(0, 3), NONE);
    x.pass(1);
    due("meet(0, 3), a minute on", x.meet(0, 3), 240);
  }

  private static void meetsAnotherOne() {
    about("MEET. NONE; BAD (alike, too)");
    NeedleTelegraph x = laid("c0,9,0;" + SIX_MESSAGES);
    x.pass(1);
    for (int m = -1; m <= 6; m++) {
      for (int n = -1; n <= 6; n++) {
        boolean well = m >= 0 && m < 6 && n >= 0 && n < 6 && m != n;
        due("meet(" + m + ", " + n + ")", x.meet(m, n), well ? 0 : BAD);
      }
    }
  }

  private static void dueHangs(String text, int which, int many) {
    NeedleTelegraph x = laid(text);
    due("hangs(0) of " + text, x.hangs(0), which);
    due("hangs(1) of " + text, x.hangs(1), many);
    allIndoors(x, x.count(0));
    due("hangs(0), all indoors", x.hangs(0), which);
  }

  private static void hangsOnMost() {
    about("HANGS: the CHAIR by whom most CHAIRS (herself too) knit on to the SEA, of several the lowest; how many");
    dueHangs(ONE, 0, 1);
    dueHangs("c0,1,0;c0,1,1;", 0, 1);
    dueHangs("c0,1,0;c0,1,1;c0,1,2;", 0, 1);
    dueHangs("c0,1,0;c0,1,0;", 0, 2);
    dueHangs("c0,1,0;c0,1,1;c0,1,1;", 1, 2);
    dueHangs("c0,1,0;c0,1,1;c0,1,1;c0,1,0;", 0, 2);
    dueHangs("c0,1,0;c0,1,1;c0,1,1;c0,1,0;c0,1,2;", 1, 3);
    dueHangs("c0,1,0;c0,1,0;c0,1,2;c0,1,2;c0,1,3;c0,1,3;c0,1,3;c0,1,3;c0,1,3;", 2, 7);
    dueHangs(SLOW + "c0,20,8;", 0, 8);
    dueHangs(NINE_CHAIRS, 0, 9);
  }

  public static void main(String[] args) {
    comesWereNobodyIndoors();
    outBehindAMinuteAtLeast();
    outAtMost();
    outIsNot();
    codesOfOneToFour();
    codesShortestAndLowest();
    couldOfOneToFive();
    bringsOfThoseIndoors();
    bringsNoneWhoHasBegun();
    bringsWithinMinutes();
    meetsNow();
    meetsAtMost();
    meetsAnotherOne();
    hangsOnMost();
    finish();
  }
}
