import java.util.ArrayList;
import java.util.List;
import java.util.function.Supplier;
import java.util.function.ToIntFunction;

/** Calls that are refused, or that only ask: what they answer, and that behind them all is as it is without them. */
public final class RefusalsTest extends Checks {
  private static final int[] FAR_OFF = {LOW, LOW + 1, -65536, -2, 65535, 65536, HIGH - 1, HIGH};
  private static final int[] NO_ROWS = {LOW, -6, -1, 4, 8, 12, 16, 17, 20, 24, 1020, 16384, 65532, 65536, 65537, 87381, HIGH};
  private static final int[] NO_ROWS_NOR_EMPTY = {LOW, -1, 0, 4, 8, 16, 17, 20, 65532, 65536, 87381, HIGH};

  /** Nothing to be undone, kept or seen, no text, four messages that are not begun. */
  private static NeedleTelegraph atFirst() {
    return new NeedleTelegraph();
  }

  /** Messages 0 and 2 are out, 1 and 3 at chairs, 4 and 5 not begun; a text with a fault; room for more but messages. */
  private static NeedleTelegraph underWay() {
    NeedleTelegraph x = new NeedleTelegraph();
    x.pass(12);
    x.keep();
    x.see(6, 27, 107);
    x.rain(0);
    x.pass(3);
    x.alter(1, 27);
    x.send(2, 6);
    x.send(4, 65535);
    x.see(1, 6, 6);
    write(x, "c0,1,0;i1;");
    return x;
  }

  /** As many of all as there can be; the text of 200 letters can be laid. */
  private static NeedleTelegraph full() {
    NeedleTelegraph x = written(NINE_CHAIRS + "m0,0,pppppppp;".repeat(6) + "i0;".repeat(15) + "i00;i00;");
    x.send(0, 1);
    x.send(0, 2);
    x.keep();
    for (int i = 0; i < 8; i++) x.pass(i + 1);
    x.keep();
    for (int i = 0; i < 6; i++) x.see(i, 27, 27);
    return x;
  }

  private static void askAll(NeedleTelegraph x, List<Integer> all) {
    for (int c = 0; c < 9; c++) {
      for (int what = 0; what <= 4; what++) all.add(x.chair(c, what));
    }
    for (int m = 0; m < 6; m++) {
      for (int what = 0; what <= 5; what++) all.add(x.message(m, what));
    }
    all.add(x.fault());
    all.add(x.lies());
    askCounts(x, all);
  }

  private static void askCounts(NeedleTelegraph x, List<Integer> all) {
    for (int what = 0; what <= 9; what++) all.add(x.count(what));
    all.add(x.message(1, 3));
  }

  /** All that can be asked, then what comes of undoing all, of going back to all that is kept, of laying the text. */
  private static List<Integer> allOf(NeedleTelegraph x) {
    List<Integer> all = new ArrayList<>();
    askAll(x, all);
    for (int answer = 0; answer != NO; askCounts(x, all)) {
      answer = x.undo();
      all.add(answer);
    }
    for (int answer = 0; answer != NO; askCounts(x, all)) {
      answer = x.back();
      all.add(answer);
    }
    all.add(x.lay());
    askCounts(x, all);
    return all;
  }

  private static void leaves(Supplier<NeedleTelegraph> made, String call, ToIntFunction<NeedleTelegraph> said) {
    NeedleTelegraph x = made.get();
    said.applyAsInt(x);
    due(call + ": 1 if all is as it is without it", allOf(x).equals(allOf(made.get())) ? 1 : 0, 1);
  }

  private static void refused(Supplier<NeedleTelegraph> made, String call, ToIntFunction<NeedleTelegraph> said, int want) {
    due(call, said.applyAsInt(made.get()), want);
    leaves(made, call, said);
  }

  private static void bad(String call, ToIntFunction<NeedleTelegraph> said) {
    refused(RefusalsTest::atFirst, call + " at first", said, BAD);
    refused(RefusalsTest::underWay, call + " under way", said, BAD);
    refused(RefusalsTest::full, call + " when all is full", said, BAD);
  }

  /** The numbers just below and just above what is told, and some far off. */
  private static int[] outside(int lowest, int highest) {
    List<Integer> numbers = new ArrayList<>(List.of(lowest - 1, highest + 1));
    for (int number : FAR_OFF) {
      if (number < lowest - 1 || number > highest + 1) numbers.add(number);
    }
    return numbers.stream().mapToInt(Integer::intValue).toArray();
  }

  private static void badOfValleys() {
    about("BAD: a number is none that is told; nothing changes then");
    for (int n : outside(32, 126)) bad("write(" + n + ")", x -> x.write(n));
    for (int n : outside(0, 7)) {
      bad("chair(" + n + ", 0)", x -> x.chair(n, 0));
      bad("knit(" + n + ", 1)", x -> x.knit(n, 1));
    }
    for (int n : outside(0, 4)) bad("chair(0, " + n + ")", x -> x.chair(0, n));
    for (int n : outside(0, 5)) {
      bad("message(0, " + n + ")", x -> x.message(0, n));
      bad("message(" + n + ", 0)", x -> x.message(n, 0));
    }
    for (int n : NO_ROWS) bad("knit(0, " + n + ")", x -> x.knit(0, n));
    refused(RefusalsTest::atFirst, "message(4, 0) of four", x -> x.message(4, 0), BAD);
  }

  private static void badOfMinutes() {
    about("BAD: a number is none that is told; nothing changes then");
    for (int n : outside(1, 60)) bad("pass(" + n + ")", x -> x.pass(n));
    for (int n : outside(0, 7)) {
      bad("rain(" + n + ")", x -> x.rain(n));
      bad("send(" + n + ", 1)", x -> x.send(n, 1));
      bad("send(" + n + ", 0)", x -> x.send(n, 0));
    }
    for (int n : outside(0, 5)) {
      bad("alter(" + n + ", 1)", x -> x.alter(n, 1));
      bad("alter(" + n + ", 0)", x -> x.alter(n, 0));
    }
    for (int n : NO_ROWS_NOR_EMPTY) {
      bad("send(0, " + n + ")", x -> x.send(0, n));
      for (int m = 0; m < 4; m++) {
        int message = m;
        bad("alter(" + m + ", " + n + ")", x -> x.alter(message, n));
      }
    }
    refused(RefusalsTest::atFirst, "alter(4, 1) of four", x -> x.alter(4, 1), BAD);
  }

  private static void badOfWhatComes() {
    about("BAD: a number is none that is told; nothing changes then");
    for (int n : outside(0, 7)) {
      bad("comes(" + n + ", 1, 0)", x -> x.comes(n, 1, 0));
      bad("code(" + n + ", 1)", x -> x.code(n, 1));
      bad("could(" + n + ", 1)", x -> x.could(n, 1));
    }
    for (int n : NO_ROWS) {
      bad("code(0, " + n + ")", x -> x.code(0, n));
      bad("could(0, " + n + ")", x -> x.could(0, n));
    }
    for (int n : NO_ROWS_NOR_EMPTY) {
      bad("comes(0, " + n + ", 0)", x -> x.comes(0, n, 0));
      bad("comes(0, " + n + ", 1)", x -> x.comes(0, n, 1));
    }
    for (int n : outside(0, 1)) {
      bad("comes(0, 1, " + n + ")", x -> x.comes(0, 1, n));
      bad("bring(" + n + ")", x -> x.bring(n));
      bad("hangs(" + n + ")", x -> x.hangs(n));
      for (int m = 0; m < 4; m++) {
        int message = m;
        bad("out(" + m + ", " + n + ")", x -> x.out(message, n));
      }
    }
  }

  private static void badOfMessagesThatCome() {
    about("BAD: a number is none that is told; nothing changes then");
    for (int n : outside(0, 5)) {
      bad("out(" + n + ", 0)", x -> x.out(n, 0));
      bad("out(" + n + ", 2)", x -> x.out(n, 2));
      bad("meet(" + n + ", 0)", x -> x.meet(n, 0));
      bad("meet(0, " + n + ")", x -> x.meet(0, n));
      bad("meet(" + n + ", " + n + ")", x -> x.meet(n, n));
    }
    for (int m = 0; m < 4; m++) {
      int message = m;
      bad("meet(" + m + ", " + m + ")", x -> x.meet(message, message));
    }
    refused(RefusalsTest::atFirst, "out(4, 0) of four", x -> x.out(4, 0), BAD);
    refused(RefusalsTest::atFirst, "meet(4, 0) of four", x -> x.meet(4, 0), BAD);
    refused(RefusalsTest::atFirst, "meet(0, 4) of four", x -> x.meet(0, 4), BAD);
  }

  private static void badOfSeenSlipsAndEvenings() {
    about("BAD: a number is none that is told; nothing changes then");
    for (int n : outside(0, 7)) {
      bad("see(" + n + ", 1, 1)", x -> x.see(n, 1, 1));
      bad("kinds(" + n + ")", x -> x.kinds(n));
      bad("slips(" + n + ", 1, 1, 0)", x -> x.slips(n, 1, 1, 0));
    }
    for (int n : NO_ROWS) bad("see(0, 1, " + n + ")", x -> x.see(0, 1, n));
    for (int n : NO_ROWS_NOR_EMPTY) {
      bad("see(0, " + n + ", 1)", x -> x.see(0, n, 1));
      bad("slips(0, " + n + ", 1, 0)", x -> x.slips(0, n, 1, 0));
    }
    for (int n : outside(0, 10)) bad("slips(0, 1, " + n + ", 0)", x -> x.slips(0, 1, n, 0));
    for (int n : outside(0, 9999)) bad("evening(" + n + ", 1, 0)", x -> x.evening(n, 1, 0));
    for (int n : outside(1, 60)) bad("evening(0, " + n + ", 0)", x -> x.evening(0, n, 0));
    for (int n : outside(0, 1)) {
      bad("slips(0, 1, 1, " + n + ")", x -> x.slips(0, 1, 1, n));
      bad("evening(0, 1, " + n + ")", x -> x.evening(0, 1, n));
    }
    for (int n : outside(0, 9)) bad("count(" + n + ")", x -> x.count(n));
  }

  private static void notAsThingsStand() {
    about("NO: not as things stand; nothing changes then");
    refused(RefusalsTest::atFirst, "lay() of no text", x -> x.lay(), NO);
    refused(RefusalsTest::underWay, "lay() of a text with a fault", x -> x.lay(), NO);
    refused(RefusalsTest::atFirst, "undo() of nothing", x -> x.undo(), NO);
    refused(RefusalsTest::atFirst, "back() to nothing", x -> x.back(), NO);
    for (int m = 0; m < 4; m++) {
      int message = m;
      refused(RefusalsTest::atFirst, "alter(" + m + ", 1), not begun", x -> x.alter(message, 1), NO);
    }
    for (int m : new int[] {0, 2}) {
      refused(RefusalsTest::underWay, "alter(" + m + ", 1), out", x -> x.alter(m, 1), NO);
      refused(RefusalsTest::underWay, "out(" + m + ", 0), out", x -> x.out(m, 0), NO);
      refused(RefusalsTest::underWay, "out(" + m + ", 1), out", x -> x.out(m, 1), NO);
    }
    for (int m : new int[] {4, 5}) {
      refused(RefusalsTest::underWay, "alter(" + m + ", 1), sent, not begun", x -> x.alter(m, 1), NO);
    }
  }

  private static void thereIsNone() {
    about("NONE: there is none; nothing changes then");
    refused(RefusalsTest::atFirst, "fault()", x -> x.fault(), NONE);
    refused(RefusalsTest::full, "fault()", x -> x.fault(), NONE);
    refused(RefusalsTest::atFirst, "message(0, 5), not out", x -> x.message(0, 5), NONE);
    refused(RefusalsTest::underWay, "message(1, 5), not out", x -> x.message(1, 5), NONE);
    refused(RefusalsTest::underWay, "out(1, 0), held up", x -> x.out(1, 0), NONE);
    refused(RefusalsTest::underWay, "out(1, 1), held up", x -> x.out(1, 1), NONE);
    refused(RefusalsTest::underWay, "code(0, 341)", x -> x.code(0, 341), NONE);
    refused(RefusalsTest::underWay, "code(0, 0)", x -> x.code(0, 0), NONE);
    refused(RefusalsTest::underWay, "meet(0, 1), one is out", x -> x.meet(0, 1), NONE);
    String late = SLOW + "m7,99,p;i7;";
    refused(() -> laid(late), "bring(0), too late", x -> x.bring(0), NONE);
    refused(() -> laid(late), "bring(1), too late", x -> x.bring(1), NONE);
    refused(() -> laid(late), "bring(2), too late", x -> x.bring(2), BAD);
  }

  private static void noMoreRoom() {
    about("FULL; nothing changes then");
    for (int letter = 32; letter <= 126; letter += 47) {
      int written = letter;
      refused(RefusalsTest::full, "write(" + letter + "), the 201st", x -> x.write(written), FULL);
    }
    refused(RefusalsTest::full, "send(0, 1), the seventh", x -> x.send(0, 1), FULL);
    refused(RefusalsTest::underWay, "send(7, 65535), the seventh", x -> x.send(7, 65535), FULL);
    refused(RefusalsTest::full, "see(0, 1, 2), the seventh", x -> x.see(0, 1, 2), FULL);
    refused(RefusalsTest::full, "see(7, 65535, 0), the seventh", x -> x.see(7, 65535, 0), FULL);
    refused(RefusalsTest::full, "keep(), the third", x -> x.keep(), FULL);
  }

  /** Calls that only ask leave all as it is, whatever they answer. */
  private static void asking() {
    about("a call that only asks");
    List<Supplier<NeedleTelegraph>> stands =
        List.of(RefusalsTest::atFirst, RefusalsTest::underWay, RefusalsTest::full);
    for (Supplier<NeedleTelegraph> made : stands) {
      leaves(made, "fault()", x -> x.fault());
      leaves(made, "knit(1, 27)", x -> x.knit(1, 27));
      leaves(made, "comes(6, 27, 0)", x -> x.comes(6, 27, 0));
      leaves(made, "comes(6, 27, 1)", x -> x.comes(6, 27, 1));
      for (int m = 0; m < 4; m++) {
        int message = m;
        leaves(made, "out(" + m + ", 0)", x -> x.out(message, 0));
        leaves(made, "meet(" + m + ", 3)", x -> x.meet(message, 3));
      }
      leaves(made, "code(2, 26)", x -> x.code(2, 26));
      leaves(made, "could(2, 26)", x -> x.could(2, 26));
      leaves(made, "bring(0)", x -> x.bring(0));
      leaves(made, "hangs(0)", x -> x.hangs(0));
      leaves(made, "kinds(1)", x -> x.kinds(1));
      leaves(made, "lies()", x -> x.lies());
      leaves(made, "slips(6, 27, 5, 1)", x -> x.slips(6, 27, 5, 1));
      leaves(made, "evening(0, 60, 0)", x -> x.evening(0, 60, 0));
      leaves(made, "evening(5, 60, 1)", x -> x.evening(5, 60, 1));
      leaves(made, "chair(3, 4)", x -> x.chair(3, 4));
      leaves(made, "message(3, 4)", x -> x.message(3, 4));
      leaves(made, "count(7)", x -> x.count(7));
    }
  }

  public static void main(String[] args) {
    badOfValleys();
    badOfMinutes();
    badOfWhatComes();
    badOfMessagesThatCome();
    badOfSeenSlipsAndEvenings();
    notAsThingsStand();
    thereIsNone();
    noMoreRoom();
    asking();
    finish();
  }
}
