import java.math.BigInteger;
import java.util.ArrayDeque;
import java.util.ArrayList;
import java.util.Deque;
import java.util.List;
import java.util.regex.Matcher;
import java.util.regex.Pattern;

/**
 * Runs of calls by draws, each answer beside that of a model that takes the document at its word: rows are texts,
 * every question is answered by letting minutes go by, or by trying all that could be.
 */
public final class ModelTest {
  private static final int BAD = -1, NO = -2, FULL = -3, NONE = -4;
  private static final int RUNS = 600, CALLS = 512;

  private record Chair(int kind, int pace, int next) {}

  private static final class Message {
    int begins, chair, state, left, outIn = NONE;
    String row;

    Message(int begins, int chair, String row) {
      this.begins = begins;
      this.chair = chair;
      this.row = row;
    }

    Message again() {
      Message same = new Message(begins, chair, row);
      same.state = state;
      same.left = left;
      same.outIn = outIn;
      return same;
    }
  }

  private static final class Stand {
    int minute;
    boolean[] indoors = new boolean[9];
    List<Message> messages = new ArrayList<>();

    Stand again() {
      Stand same = new Stand();
      same.minute = minute;
      same.indoors = indoors.clone();
      for (Message message : messages) same.messages.add(message.again());
      return same;
    }

    long out() {
      return messages.stream().filter(message -> message.state == 2).count();
    }
  }

  private record Sight(int chair, String row, String as) {}

  /** The document, word by word. */
  private static final class Model {
    private static final Pattern ITEM = Pattern.compile(
        "c([0-9]{1,2}),([0-9]{1,2}),([0-9]{1,2});|m([0-9]{1,2}),([0-9]{1,2}),([pus]{1,8});|i([0-9]{1,2});");

    String text = "";
    List<Chair> chairs = new ArrayList<>();
    Stand stand = new Stand();
    List<Sight> seen = new ArrayList<>();
    Deque<Stand> undone = new ArrayDeque<>();
    Deque<Stand> kept = new ArrayDeque<>();

    private List<Chair> readChairs;
    private Stand readStand;

    Model() {
      text = "c0,3,0;c1,2,0;c2,4,1;c3,5,1;c0,1,2;c4,6,3;c2,2,5;c0,7,7;m4,0,pupu;m6,2,sspup;m7,5,u;m5,9,pppsss;i3;";
      lay();
      text = "";
    }

    static String letters(int row) {
      String figures = Integer.toString(row, 4);
      if (row == 0) return "";
      if (row < 0 || figures.length() > 8 || figures.contains("0")) return null;
      return figures.replace('1', 'p').replace('2', 'u').replace('3', 's');
    }

    static int number(String row) {
      return row.isEmpty() ? 0 : Integer.parseInt(row.replace('p', '1').replace('u', '2').replace('s', '3'), 4);
    }

    static boolean isRow(int row) {
      return row != 0 && letters(row) != null;
    }

    static String knitted(int kind, String row) {
      if (kind == 1) return row.replaceAll("(..).", "$1");
      if (kind == 2) return row.length() < 8 ? row + "u" : row;
      if (kind == 3) return row.replace('p', '-').replace('u', 'p').replace('-', 'u');
      if (kind == 4) return row.replaceAll(".$", "s");
      return row;
    }

    boolean isChair(int c) {
      return c >= 0 && c < chairs.size();
    }

    boolean isMessage(int m) {
      return m >= 0 && m < stand.messages.size();
    }

    int write(int letter) {
      if (letter < 32 || letter > 126) return BAD;
      if (text.length() == 200) return FULL;
      text += (char) letter;
      return text.length();
    }

    int wipe() {
      int length = text.length();
      text = "";
      return length;
    }

    int fault() {
      readChairs = new ArrayList<>();
      readStand = new Stand();
      Matcher item = ITEM.matcher(text);
      int place = 0;
      while (place < text.length()) {
        if (!item.find(place) || item.start() != place || !isSo(item)) return place;
        place = item.end();
      }
      return NONE;
    }

    private boolean isSo(Matcher item) {
      int told = readChairs.size();
      if (item.group(1) != null) {
        int kind = Integer.parseInt(item.group(1));
        int pace = Integer.parseInt(item.group(2));
        int next = Integer.parseInt(item.group(3));
        readChairs.add(new Chair(kind, pace, next));
        return kind <= 4 && pace >= 1 && pace <= 20 && next <= told && readChairs.size() <= 9;
      }
      if (item.group(4) != null) {
        int chair = Integer.parseInt(item.group(4));
        readStand.messages.add(new Message(Integer.parseInt(item.group(5)), chair, item.group(6)));
        return chair < told && readStand.messages.size() <= 6;
      }
      int chair = Integer.parseInt(item.group(7));
      if (chair < told) readStand.indoors[chair] = true;
      return chair < told;
    }

    int lay() {
      if (fault() != NONE || readChairs.isEmpty()) return NO;
      chairs = readChairs;
      stand = readStand;
      seen.clear();
      undone.clear();
      kept.clear();
      return chairs.size();
    }

    int chair(int c, int what) {
      if (!isChair(c)) return BAD;
      switch (what) {
        case 0: return chairs.get(c).kind;
        case 1: return chairs.get(c).pace;
        case 2: return chairs.get(c).next;
        case 3: return stand.indoors[c] ? 1 : 0;
        case 4: return (int) stand.messages.stream().filter(m -> m.state == 1 && m.chair == c).count();
        default: return BAD;
      }
    }

    int message(int m, int what) {
      if (!isMessage(m)) return BAD;
      Message message = stand.messages.get(m);
      switch (what) {
        case 0: return message.begins;
        case 1: return message.state;
        case 2: return message.chair;
        case 3: return number(message.row);
        case 4: return message.left;
        case 5: return message.outIn;
        default: return BAD;
      }
    }

    int knit(int c, int row) {
      if (!isChair(c) || letters(row) == null) return BAD;
      return number(knitted(chairs.get(c).kind, letters(row)));
    }

    void goBy(Stand stand) {
      for (Message message : stand.messages) {
        if (message.state == 0 && message.begins == stand.minute) message.state = 1;
        if (message.state != 1) continue;
        Chair chair = chairs.get(message.chair);
        boolean begun = message.left > 0;
        if (!begun && stand.indoors[message.chair]) continue;
        if (!begun) message.left = chair.pace;
        message.left--;
        if (message.left > 0) continue;
        message.row = knitted(chair.kind, message.row);
        if (chair.next == message.chair) {
          message.state = 2;
          message.outIn = stand.minute;
        } else {
          message.chair = chair.next;
        }
      }
      stand.minute++;
    }

    void toBeUndone() {
      undone.addLast(stand.again());
      if (undone.size() > 8) undone.removeFirst();
    }

    int pass(int n) {
      if (n < 1 || n > 60) return BAD;
      toBeUndone();
      for (int i = 0; i < n; i++) goBy(stand);
      return (int) stand.out();
    }

    int rain(int c) {
      if (!isChair(c)) return BAD;
      toBeUndone();
      stand.indoors[c] = !stand.indoors[c];
      return stand.indoors[c] ? 1 : 0;
    }

    int send(int c, int row) {
      if (!isChair(c) || !isRow(row)) return BAD;
      if (stand.messages.size() == 6) return FULL;
      toBeUndone();
      stand.messages.add(new Message(stand.minute, c, letters(row)));
      return stand.messages.size() - 1;
    }

    int alter(int m, int row) {
      if (!isMessage(m) || !isRow(row)) return BAD;
      if (stand.messages.get(m).state != 1) return NO;
      toBeUndone();
      int before = number(stand.messages.get(m).row);
      stand.messages.get(m).row = letters(row);
      return before;
    }

    int undo() {
      if (undone.isEmpty()) return NO;
      stand = undone.removeLast();
      return undone.size();
    }

    /** The message alone in a valley where nobody is indoors, until it is out. */
    Message alone(int c, String row) {
      Stand one = new Stand();
      one.messages.add(new Message(0, c, row));
      while (one.out() == 0) goBy(one);
      return one.messages.get(0);
    }

    int comes(int c, int row, int what) {
      if (!isChair(c) || !isRow(row) || what < 0 || what > 1) return BAD;
      Message came = alone(c, letters(row));
      return what == 0 ? number(came.row) : came.outIn + 1;
    }

    int out(int m, int what) {
      if (!isMessage(m) || what < 0 || what > 1) return BAD;
      if (stand.messages.get(m).state == 2) return NO;
      Stand later = stand.again();
      for (int minutes = 1; minutes <= 240; minutes++) {
        goBy(later);
        if (later.messages.get(m).state == 2) return what == 0 ? minutes : number(later.messages.get(m).row);
      }
      return NONE;
    }

    private List<String> rowsOf(int least, int most) {
      List<String> rows = new ArrayList<>();
      for (int row = 0; row < 65536; row++) {
        String letters = letters(row);
        if (letters != null && letters.length() >= least && letters.length() <= most) rows.add(letters);
        if (letters != null && letters.length() > most) break;
      }
      return rows;
    }

    private String rowAtSea(List<Chair> chairs, int c, String row) {
      int chair = c;
      String knitted = knitted(chairs.get(chair).kind, row);
      while (chairs.get(chair).next != chair) {
        chair = chairs.get(chair).next;
        knitted = knitted(chairs.get(chair).kind, knitted);
      }
      return knitted;
    }

    int code(int c, int row) {
      if (!isChair(c) || letters(row) == null) return BAD;
      for (int length = 1; length <= 4; length++) {
        for (String sent : rowsOf(length, length)) {
          if (rowAtSea(chairs, c, sent).equals(letters(row))) return number(sent);
        }
      }
      return NONE;
    }

    int could(int c, int row) {
      if (!isChair(c) || letters(row) == null) return BAD;
      return (int) rowsOf(1, 5).stream().filter(sent -> rowAtSea(chairs, c, sent).equals(letters(row))).count();
    }

    int bring(int what) {
      if (what < 0 || what > 1) return BAD;
      int best = NONE;
      for (int set = 0; set < 1 << chairs.size(); set++) {
        boolean better = best < 0 || Integer.bitCount(set) < Integer.bitCount(best);
        if (better && getThrough(set)) best = set;
      }
      return best < 0 ? NONE : what == 0 ? Integer.bitCount(best) : best;
    }

    private boolean getThrough(int set) {
      Stand later = stand.again();
      for (int c = 0; c < chairs.size(); c++) {
        if ((set >> c & 1) == 0) continue;
        if (!later.indoors[c]) return false;
        later.indoors[c] = false;
      }
      for (int i = 0; i < 240; i++) goBy(later);
      return later.out() == later.messages.size();
    }

    int meet(int m, int n) {
      if (!isMessage(m) || !isMessage(n) || m == n) return BAD;
      Stand later = stand.again();
      for (int minutes = 0; minutes <= 240; minutes++) {
        Message one = later.messages.get(m);
        Message other = later.messages.get(n);
        if (one.state == 1 && other.state == 1 && one.chair == other.chair) return minutes;
        goBy(later);
      }
      return NONE;
    }

    private boolean goesBy(int c, int chair) {
      while (c != chair && chairs.get(c).next != c) c = chairs.get(c).next;
      return c == chair;
    }

    int hangs(int what) {
      if (what < 0 || what > 1) return BAD;
      int[] many = new int[chairs.size()];
      int best = 0;
      for (int chair = 0; chair < many.length; chair++) {
        for (int c = 0; c < many.length; c++) many[chair] += goesBy(c, chair) ? 1 : 0;
        if (many[chair] > many[best]) best = chair;
      }
      return what == 0 ? best : many[best];
    }

    int see(int c, int row, int as) {
      if (!isChair(c) || !isRow(row) || letters(as) == null) return BAD;
      if (seen.size() == 6) return FULL;
      seen.add(new Sight(c, letters(row), letters(as)));
      return seen.size();
    }

    int forget() {
      int many = seen.size();
      seen.clear();
      return many;
    }

    private boolean allSo(int c, int kind) {
      List<Chair> others = new ArrayList<>(chairs);
      others.set(c, new Chair(kind, chairs.get(c).pace, chairs.get(c).next));
      return seen.stream().allMatch(sight -> rowAtSea(others, sight.chair, sight.row).equals(sight.as));
    }

    int kinds(int c) {
      if (!isChair(c)) return BAD;
      int bits = 0;
      for (int kind = 0; kind <= 4; kind++) bits += allSo(c, kind) ? 1 << kind : 0;
      return bits;
    }

    int lies() {
      int bits = allSo(0, chairs.get(0).kind) ? 512 : 0;
      for (int c = 0; c < chairs.size(); c++) {
        boolean lies = false;
        for (int kind = 0; kind <= 4; kind++) lies |= kind != chairs.get(c).kind && allSo(c, kind);
        bits += lies ? 1 << c : 0;
      }
      return bits;
    }

    int slips(int c, int row, int x, int part) {
      if (!isChair(c) || !isRow(row) || x < 0 || x > 10 || part < 0 || part > 1) return BAD;
      List<Integer> kinds = new ArrayList<>();
      int chair = c;
      for (; chairs.get(chair).next != chair; chair = chairs.get(chair).next) kinds.add(chairs.get(chair).kind);
      kinds.add(chairs.get(chair).kind);
      BigInteger above = BigInteger.ZERO;
      for (int slipping = 0; slipping < 1 << kinds.size(); slipping++) {
        String knitted = letters(row);
        BigInteger weight = BigInteger.ONE;
        for (int i = 0; i < kinds.size(); i++) {
          boolean slips = (slipping >> i & 1) == 1;
          weight = weight.multiply(BigInteger.valueOf(slips ? x : 10 - x));
          if (slips && !knitted.isEmpty()) knitted = knitted.substring(1);
          knitted = knitted(kinds.get(i), knitted);
        }
        if (knitted.equals(rowAtSea(chairs, c, letters(row)))) above = above.add(weight);
      }
      BigInteger below = BigInteger.TEN.pow(kinds.size());
      return (part == 0 ? above : below).divide(above.gcd(below)).intValueExact();
    }

    int evening(int z, int n, int what) {
      if (z < 0 || z > 9999 || n < 1 || n > 60 || what < 0 || what > 1) return BAD;
      Stand later = stand.again();
      for (int k = 0; k < n; k++) {
        BigInteger x = BigInteger.valueOf(7919L * z + 6151L * k + 1);
        int draw = x.multiply(x).mod(BigInteger.valueOf(65521)).intValueExact();
        int c = draw / 8 % chairs.size();
        if (draw % 8 == 0) later.indoors[c] = !later.indoors[c];
        if (draw % 8 == 1 && later.messages.size() < 6) {
          String row = "" + "pus".charAt(draw / 128 % 3) + "pus".charAt(draw / 512 % 3);
          later.messages.add(new Message(later.minute, c, row));
        }
        goBy(later);
      }
      int sum = later.messages.stream().filter(m -> m.state == 2).mapToInt(m -> number(m.row)).sum();
      return what == 0 ? (int) later.out() : sum % 9973;
    }

    int keep() {
      if (kept.size() == 2) return FULL;
      kept.addLast(stand.again());
      return kept.size();
    }

    int back() {
      if (kept.isEmpty()) return NO;
      stand = kept.removeLast();
      undone.clear();
      return kept.size();
    }

    int count(int what) {
      int indoors = 0;
      for (boolean is : stand.indoors) indoors += is ? 1 : 0;
      int atChairs = (int) stand.messages.stream().filter(message -> message.state == 1).count();
      int[] counts = {chairs.size(), stand.messages.size(), stand.minute, indoors, atChairs, (int) stand.out(),
          seen.size(), undone.size(), kept.size(), text.length()};
      return what >= 0 && what < counts.length ? counts[what] : BAD;
    }
  }

  /** Draws that are the same each time. */
  private static final class Draws {
    private long state;

    Draws(long seed) {
      state = seed * 0x9E3779B97F4A7C15L + 1;
    }

    int below(int bound) {
      state = state * 6364136223846793005L + 1442695040888963407L;
      return (int) Math.floorMod(state >>> 33, (long) bound);
    }

    boolean oneOf(int many) {
      return below(many) == 0;
    }

    /** A number from lowest to highest, now and then one at its edge, behind it or far off. */
    int number(int lowest, int highest) {
      if (!oneOf(12)) return lowest + below(highest - lowest + 1);
      int[] odd = {lowest - 1, lowest, highest, highest + 1, Integer.MIN_VALUE, Integer.MAX_VALUE, -1, 0, 256};
      return odd[below(odd.length)];
    }

    int row() {
      if (oneOf(16)) return number(-5, 70000);
      int row = 0;
      int alike = oneOf(4) ? 1 + below(3) : 0;
      for (int i = oneOf(6) ? 8 : 1 + below(8); i > 0; i--) row = row * 4 + (alike > 0 ? alike : 1 + below(3));
      return row;
    }
  }

  private static int wrong = 0;

  private static String drawnText(Draws draws) {
    StringBuilder text = new StringBuilder();
    int chairs = 1 + draws.below(9);
    int shape = draws.below(4);
    int most = draws.oneOf(2) ? 4 : 20;
    int told = 0;
    while (told < chairs || draws.below(5) > 0) {
      if (text.length() > 175) break;
      if (told < chairs && (told == 0 || draws.below(4) > 0)) {
        int back = shape == 0 ? 1 : 1 + draws.below(Math.max(1, Math.min(told, shape)));
        int next = told == 0 || draws.oneOf(9) ? told : Math.max(0, told - back);
        text.append("c" + draws.below(5) + "," + (1 + draws.below(most)) + "," + next + ";");
        told++;
      } else if (draws.oneOf(5)) {
        text.append("i" + draws.below(told) + ";");
      } else {
        String row = Model.letters(Math.max(1, draws.row()));
        text.append("m" + draws.below(told) + "," + draws.below(draws.oneOf(3) ? 100 : 20) + ",");
        text.append(row == null ? "pus" : row).append(';');
      }
    }
    if (draws.oneOf(3)) text.setCharAt(draws.below(text.length()), "cmi0123456789,;puspq x"
        .charAt(draws.below(22)));
    if (draws.oneOf(8)) text.deleteCharAt(draws.below(text.length()));
    return text.toString();
  }

  private final NeedleTelegraph x = new NeedleTelegraph();
  private final Model model = new Model();
  private final Draws draws;
  private final int run;
  private final StringBuilder said = new StringBuilder();
  private int calls;

  private ModelTest(int run) {
    this.run = run;
    this.draws = new Draws(run);
  }

  private void due(String call, int got, int want) {
    calls++;
    said.append(call).append(' ');
    if (got == want) return;
    wrong++;
    System.out.println("run " + run + ", call " + calls + ": " + call + " answered " + got + ", due is " + want);
    if (wrong == 1) System.out.println("behind: " + said);
  }

  private void writeText() {
    due("wipe()", x.wipe(), model.wipe());
    String text = drawnText(draws);
    for (int i = 0; i < text.length(); i++) {
      due("write(" + (int) text.charAt(i) + ")", x.write(text.charAt(i)), model.write(text.charAt(i)));
    }
    due("fault()", x.fault(), model.fault());
    due("lay()", x.lay(), model.lay());
  }

  private int chair() {
    return draws.number(0, model.chairs.size() - 1);
  }

  private int message() {
    return draws.number(0, Math.max(0, model.stand.messages.size() - 1));
  }

  /** What a row comes as, so that codes are found and what is seen is often so. */
  private int coming(int c) {
    int row = draws.oneOf(2) ? draws.below(1024) : draws.row();
    if (!model.isChair(c) || !Model.isRow(row)) return draws.oneOf(4) ? 0 : draws.row();
    return model.comes(c, row, 0);
  }

  private void valleyCall() {
    int c = chair();
    int m = message();
    int row = draws.oneOf(9) ? 0 : draws.row();
    int what = draws.number(0, 5);
    int letter = draws.number(32, 126);
    switch (draws.below(7)) {
      case 0: due("write(" + letter + ")", x.write(letter), model.write(letter)); break;
      case 1: due("fault()", x.fault(), model.fault()); break;
      case 2: if (draws.oneOf(9)) due("lay()", x.lay(), model.lay()); break;
      case 3: due("chair(" + c + ", " + what + ")", x.chair(c, what), model.chair(c, what)); break;
      case 4: due("knit(" + c + ", " + row + ")", x.knit(c, row), model.knit(c, row)); break;
      default: due("message(" + m + ", " + what + ")", x.message(m, what), model.message(m, what)); break;
    }
  }

  private void minutesCall() {
    int c = chair();
    int m = message();
    int row = draws.row();
    int n = draws.oneOf(5) ? draws.number(1, 60) : 1 + draws.below(4);
    switch (draws.below(6)) {
      case 0: due("rain(" + c + ")", x.rain(c), model.rain(c)); break;
      case 1: due("send(" + c + ", " + row + ")", x.send(c, row), model.send(c, row)); break;
      case 2: due("alter(" + m + ", " + row + ")", x.alter(m, row), model.alter(m, row)); break;
      case 3: due("undo()", x.undo(), model.undo()); break;
      default: due("pass(" + n + ")", x.pass(n), model.pass(n)); break;
    }
  }

  private void comingCall() {
    int c = chair();
    int m = message();
    int n = message();
    int row = draws.row();
    int coming = coming(c);
    int what = draws.number(0, 1);
    switch (draws.below(draws.oneOf(3) ? 7 : 4)) {
      case 0: due("comes(" + c + ", " + row + ", " + what + ")", x.comes(c, row, what), model.comes(c, row, what)); break;
      case 1: due("out(" + m + ", " + what + ")", x.out(m, what), model.out(m, what)); break;
      case 2: due("meet(" + m + ", " + n + ")", x.meet(m, n), model.meet(m, n)); break;
      case 3: due("hangs(" + what + ")", x.hangs(what), model.hangs(what)); break;
      case 4: due("code(" + c + ", " + coming + ")", x.code(c, coming), model.code(c, coming)); break;
      case 5: due("could(" + c + ", " + coming + ")", x.could(c, coming), model.could(c, coming)); break;
      default: due("bring(" + what + ")", x.bring(what), model.bring(what)); break;
    }
  }

  private void seenCall() {
    int c = chair();
    int row = draws.row();
    int as = Model.isRow(row) && model.isChair(c) && !draws.oneOf(4) ? model.comes(c, row, 0) : coming(c);
    switch (draws.below(6)) {
      case 0: if (draws.oneOf(2)) due("forget()", x.forget(), model.forget()); break;
      case 1: due("lies()", x.lies(), model.lies()); break;
      case 2: due("see(" + c + ", " + row + ", " + as + ")", x.see(c, row, as), model.see(c, row, as)); break;
      default: due("kinds(" + c + ")", x.kinds(c), model.kinds(c)); break;
    }
  }

  private void slipsCall() {
    int c = chair();
    int row = draws.row();
    int tenths = draws.number(0, 10);
    int what = draws.number(0, 1);
    int z = draws.number(0, 9999);
    int n = draws.number(1, 60);
    switch (draws.below(7)) {
      case 0: if (draws.oneOf(3)) due("keep()", x.keep(), model.keep()); break;
      case 1: if (draws.oneOf(3)) due("back()", x.back(), model.back()); break;
      case 2:
        due("slips(" + c + ", " + row + ", " + tenths + ", " + what + ")", x.slips(c, row, tenths, what),
            model.slips(c, row, tenths, what));
        break;
      case 3:
        due("evening(" + z + ", " + n + ", " + what + ")", x.evening(z, n, what), model.evening(z, n, what));
        break;
      default:
        int count = draws.number(0, 9);
        due("count(" + count + ")", x.count(count), model.count(count));
        break;
    }
  }

  private void goThroughRun() {
    if (!draws.oneOf(8)) writeText();
    while (calls < CALLS - 205) {
      switch (draws.below(5)) {
        case 0: valleyCall(); break;
        case 1: minutesCall(); break;
        case 2: comingCall(); break;
        case 3: seenCall(); break;
        default: slipsCall(); break;
      }
      if (draws.oneOf(300)) writeText();
    }
  }

  public static void main(String[] args) {
    for (int run = 0; run < RUNS && wrong < 20; run++) new ModelTest(run).goThroughRun();
    System.out.println(wrong == 0 ? RUNS + " runs are as due" : wrong + " answers are not as due");
    if (wrong != 0) System.exit(1);
  }
}
