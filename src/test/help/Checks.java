/** What the tests share: a call beside the answer that is due, and texts and rows told by their letters. */
abstract class Checks {
  static final int BAD = -1, NO = -2, FULL = -3, NONE = -4;
  static final int LOW = Integer.MIN_VALUE, HIGH = Integer.MAX_VALUE;
  static final String ONE = "c0,1,0;";
  static final String NINE_CHAIRS = "c0,1,0;c1,2,0;c2,3,1;c3,4,2;c4,5,3;c0,6,4;c1,7,5;c2,8,6;c3,9,7;";
  static final String SIX_MESSAGES = "m0,0,p;m0,0,p;m0,0,p;m0,0,p;m0,0,p;m0,0,p;";

  /** Eight chairs by whom a row takes 160 minutes from the last one to the sea. */
  static final String SLOW = "c0,20,0;c0,20,0;c0,20,1;c0,20,2;c0,20,3;c0,20,4;c0,20,5;c0,20,6;";

  private static int wrong = 0;
  private static int checked = 0;
  private static String topic = "";

  /** What the next answers are about: a promise's number, or the document's own words. */
  static void about(String words) {
    topic = words;
  }

  static void due(String call, int got, int want) {
    checked++;
    if (got == want) return;
    wrong++;
    System.out.println(topic + ": " + call + " answered " + got + ", due is " + want);
  }

  /** A row's number by its letters. */
  static int row(String stitches) {
    int row = 0;
    for (int i = 0; i < stitches.length(); i++) row = row * 4 + 1 + "pus".indexOf(stitches.charAt(i));
    return row;
  }

  /** Whether a number tells a row of 1 to 8 stitches. */
  static boolean isRow(int number) {
    int left = number;
    for (int figures = 0; figures < 8 && left > 0 && left % 4 != 0; figures++) left /= 4;
    return number > 0 && left == 0;
  }

  static void write(NeedleTelegraph x, String text) {
    for (int i = 0; i < text.length(); i++) x.write(text.charAt(i));
  }

  static NeedleTelegraph written(String text) {
    NeedleTelegraph x = new NeedleTelegraph();
    write(x, text);
    return x;
  }

  static NeedleTelegraph laid(String text) {
    NeedleTelegraph x = written(text);
    if (x.lay() < 1) due("lay() of " + text, 0, 1);
    return x;
  }

  static void dueFault(String text, int want) {
    due("fault() of " + text, written(text).fault(), want);
  }

  static void dueCounts(NeedleTelegraph x, int... wants) {
    for (int what = 0; what < wants.length; what++) due("count(" + what + ")", x.count(what), wants[what]);
  }

  static void dueChair(NeedleTelegraph x, int c, int... wants) {
    for (int what = 0; what < wants.length; what++) due("chair(" + c + ", " + what + ")", x.chair(c, what), wants[what]);
  }

  static void dueMessage(NeedleTelegraph x, int m, int... wants) {
    for (int what = 0; what < wants.length; what++) due("message(" + m + ", " + what + ")", x.message(m, what), wants[what]);
  }

  static void dueSlips(NeedleTelegraph x, int c, int row, int tenths, int above, int below) {
    due("slips(" + c + ", " + row + ", " + tenths + ", 0)", x.slips(c, row, tenths, 0), above);
    due("slips(" + c + ", " + row + ", " + tenths + ", 1)", x.slips(c, row, tenths, 1), below);
  }

  static void finish() {
    System.out.println(wrong == 0 ? checked + " answers are as due" : wrong + " answers are not as due");
    if (wrong != 0 || checked == 0) System.exit(1);
  }
}
