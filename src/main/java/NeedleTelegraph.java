/** A telegraph of knitting needles: rows of stitches go by click from chair to chair down to the sea. */
public final class NeedleTelegraph {
  public static final int BAD = -1, NO = -2, FULL = -3, NONE = -4;

  private static final String FIRST_TEXT =
      "c0,3,0;c1,2,0;c2,4,1;c3,5,1;c0,1,2;c4,6,3;c2,2,5;c0,7,7;m4,0,pupu;m6,2,sspup;m7,5,u;m5,9,pppsss;i3;";

  private static final int MOST_LETTERS = 200, LOWEST_LETTER = 32, HIGHEST_LETTER = 126;
  private static final int MOST_CHAIRS = 9, MOST_MESSAGES = 6, MOST_SEEN = 6, MOST_UNDONE = 8, MOST_KEPT = 2;
  private static final int MOST_PACE = 20, MOST_MINUTES_AT_ONCE = 60, FAR_OFF = 240;

  private static final int PLAIN_ONE = 1, PURL = 2, SLIP = 3;
  private static final int MOST_STITCHES = 8, HIGHEST_ROW = 65535;
  private static final int ABOVE_ROWS_OF_FOUR = 256, ABOVE_ROWS_OF_FIVE = 1024;

  private static final int PLAIN = 0, DROPPER = 1, ADDER = 2, DEAF = 3, SPY = 4, KINDS = 5;
  private static final int NOBODY = -1;

  private static final int NOT_BEGUN = 0, AT_CHAIR = 1, CAME_OUT = 2;

  private static final int TEN = 10, IS_SO_AS_IT_IS = 512, MOST_Z = 9999, ROWS_MODULO = 9973;

  private final Reader reader = new Reader();
  private final Letters letters = reader.letters;
  private final Valley valley = new Valley();
  private final Moment now = new Moment();
  private final Moment supposed = new Moment();
  private final Pile undone = new Pile(MOST_UNDONE);
  private final Pile kept = new Pile(MOST_KEPT);
  private final Seen seen = new Seen();

  public NeedleTelegraph() {
    for (int i = 0; i < FIRST_TEXT.length(); i++) letters.add(FIRST_TEXT.charAt(i));
    if (reader.read() == NONE) layWhatWasRead();
    letters.clear();
  }

  // ---- valleys

  public int write(int letter) {
    if (!isBetween(letter, LOWEST_LETTER, HIGHEST_LETTER)) return BAD;
    return letters.add(letter) ? letters.length() : FULL;
  }

  public int wipe() {
    int length = letters.length();
    letters.clear();
    return length;
  }

  public int fault() {
    return reader.read();
  }

  public int lay() {
    if (reader.read() != NONE || reader.valley.size() == 0) return NO;
    layWhatWasRead();
    return valley.size();
  }

  public int chair(int c, int what) {
    if (!valley.has(c)) return BAD;
    switch (what) {
      case 0: return valley.kindOf(c);
      case 1: return valley.paceOf(c);
      case 2: return valley.nextOf(c);
      case 3: return now.isIndoors(c) ? 1 : 0;
      case 4: return now.howManyAt(c);
      default: return BAD;
    }
  }

  public int message(int m, int what) {
    if (!now.has(m)) return BAD;
    Message message = now.get(m);
    switch (what) {
      case 0: return message.begins;
      case 1: return message.state;
      case 2: return message.chair;
      case 3: return message.row;
      case 4: return message.left;
      case 5: return message.state == CAME_OUT ? message.outIn : NONE;
      default: return BAD;
    }
  }

  public int knit(int c, int row) {
    if (!valley.has(c) || !Rows.isRowOrEmpty(row)) return BAD;
    return Rows.knitted(valley.kindOf(c), row);
  }

  // ---- minutes

  public int pass(int n) {
    if (!isBetween(n, 1, MOST_MINUTES_AT_ONCE)) return BAD;
    undone.put(now);
    for (int i = 0; i < n; i++) now.goThroughMinute(valley);
    return now.howManyAre(CAME_OUT);
  }

  public int rain(int c) {
    if (!valley.has(c)) return BAD;
    undone.put(now);
    now.goInOrOut(c);
    return now.isIndoors(c) ? 1 : 0;
  }

  public int send(int c, int row) {
    if (!valley.has(c) || !Rows.isRow(row)) return BAD;
    if (now.size() >= MOST_MESSAGES) return FULL;
    undone.put(now);
    now.add(c, now.minute(), row);
    return now.size() - 1;
  }

  public int alter(int m, int row) {
    if (!now.has(m) || !Rows.isRow(row)) return BAD;
    Message message = now.get(m);
    if (message.state != AT_CHAIR) return NO;
    undone.put(now);
    int before = message.row;
    message.row = row;
    return before;
  }

  public int undo() {
    return undone.takeInto(now) ? undone.size() : NO;
  }

  // ---- what comes

  public int comes(int c, int row, int what) {
    if (!valley.has(c) || !Rows.isRow(row) || !isBetween(what, 0, 1)) return BAD;
    return what == 0 ? valley.rowAtSea(c, row) : valley.minutesToSea(c);
  }

  public int out(int m, int what) {
    if (!now.has(m) || !isBetween(what, 0, 1)) return BAD;
    Message message = now.get(m);
    if (message.state == CAME_OUT) return NO;
    int minutes = message.minutesToSea(valley, now.minute());
    if (now.chairsHolding(message, valley) != 0 || minutes > FAR_OFF) return NONE;
    return what == 0 ? minutes : valley.rowAtSea(message.chair, message.row);
  }

  public int code(int c, int row) {
    if (!valley.has(c) || !Rows.isRowOrEmpty(row)) return BAD;
    // A shorter row is a lower number, so the first one found is the one asked for.
    for (int sent = 1; sent < ABOVE_ROWS_OF_FOUR; sent++) {
      if (Rows.isRow(sent) && valley.rowAtSea(c, sent) == row) return sent;
    }
    return NONE;
  }

  public int could(int c, int row) {
    if (!valley.has(c) || !Rows.isRowOrEmpty(row)) return BAD;
    int many = 0;
    for (int sent = 1; sent < ABOVE_ROWS_OF_FIVE; sent++) {
      if (Rows.isRow(sent) && valley.rowAtSea(c, sent) == row) many++;
    }
    return many;
  }

  public int bring(int what) {
    if (!isBetween(what, 0, 1)) return BAD;
    // A message goes through only when each one that holds it comes out, and nobody else
    // hinders it: so those who hold one are the only set of fewest.
    int holding = 0;
    for (int m = 0; m < now.size(); m++) {
      Message message = now.get(m);
      if (message.state == CAME_OUT) continue;
      if (message.minutesToSea(valley, now.minute()) > FAR_OFF) return NONE;
      holding |= now.chairsHolding(message, valley);
    }
    return what == 0 ? Integer.bitCount(holding) : holding;
  }

  public int meet(int m, int n) {
    if (!now.has(m) || !now.has(n) || m == n) return BAD;
    supposed.copy(now);
    for (int minutes = 0; minutes <= FAR_OFF; minutes++) {
      if (supposed.areTogether(m, n)) return minutes;
      supposed.goThroughMinute(valley);
    }
    return NONE;
  }

  public int hangs(int what) {
    if (!isBetween(what, 0, 1)) return BAD;
    int best = 0;
    int most = 0;
    for (int c = 0; c < valley.size(); c++) {
      int many = valley.howManyKnitBy(c);
      if (many > most) {
        best = c;
        most = many;
      }
    }
    return what == 0 ? best : most;
  }

  // ---- what was seen

  public int see(int c, int row, int as) {
    if (!valley.has(c) || !Rows.isRow(row) || !Rows.isRowOrEmpty(as)) return BAD;
    return seen.add(c, row, as) ? seen.size() : FULL;
  }

  public int forget() {
    int many = seen.size();
    seen.clear();
    return many;
  }

  public int kinds(int c) {
    return valley.has(c) ? kindsThatDo(c) : BAD;
  }

  public int lies() {
    int bits = seen.isSo(valley, NOBODY, PLAIN) ? IS_SO_AS_IT_IS : 0;
    for (int c = 0; c < valley.size(); c++) {
      int others = kindsThatDo(c) & ~(1 << valley.kindOf(c));
      if (others != 0) bits |= 1 << c;
    }
    return bits;
  }

  // ---- slips, evenings

  public int slips(int c, int row, int x, int part) {
    if (!valley.has(c) || !Rows.isRow(row) || !isBetween(x, 0, TEN) || !isBetween(part, 0, 1)) return BAD;
    long above = tenthsThatCome(valley, c, row, x, valley.rowAtSea(c, row), 0);
    long below = 1;
    for (int i = 0; i < valley.chairsToSea(c); i++) below *= TEN;
    long divisor = greatestDivisor(above, below);
    if (divisor < 1) return BAD;
    return (int) ((part == 0 ? above : below) / divisor);
  }

  public int evening(int z, int n, int what) {
    if (!isBetween(z, 0, MOST_Z) || !isBetween(n, 1, MOST_MINUTES_AT_ONCE) || !isBetween(what, 0, 1)) return BAD;
    supposed.copy(now);
    for (int k = 0; k < n; k++) {
      happen(draw(z, k));
      supposed.goThroughMinute(valley);
    }
    return what == 0 ? supposed.howManyAre(CAME_OUT) : supposed.sumOfRowsOut() % ROWS_MODULO;
  }

  public int keep() {
    if (kept.size() >= MOST_KEPT) return FULL;
    kept.put(now);
    return kept.size();
  }

  public int back() {
    if (!kept.takeInto(now)) return NO;
    undone.clear();
    return kept.size();
  }

  public int count(int what) {
    switch (what) {
      case 0: return valley.size();
      case 1: return now.size();
      case 2: return now.minute();
      case 3: return now.howManyIndoors();
      case 4: return now.howManyAre(AT_CHAIR);
      case 5: return now.howManyAre(CAME_OUT);
      case 6: return seen.size();
      case 7: return undone.size();
      case 8: return kept.size();
      case 9: return letters.length();
      default: return BAD;
    }
  }

  // ---- what the calls share

  private static boolean isBetween(int number, int lowest, int highest) {
    return number >= lowest && number <= highest;
  }

  private static boolean isIn(int bits, int c) {
    return ((bits >> c) & 1) == 1;
  }

  /** Reads an array so that the machine never has an index to refuse. */
  private static int at(int[] numbers, int i) {
    return i >= 0 && i < numbers.length ? numbers[i] : 0;
  }

  /** Writes to an array so that the machine never has an index to refuse. */
  private static void set(int[] numbers, int i, int number) {
    if (i >= 0 && i < numbers.length) numbers[i] = number;
  }

  private void layWhatWasRead() {
    valley.copy(reader.valley);
    now.copy(reader.moment);
    seen.clear();
    undone.clear();
    kept.clear();
  }

  private int kindsThatDo(int c) {
    int bits = 0;
    for (int kind = 0; kind < KINDS; kind++) {
      if (seen.isSo(valley, c, kind)) bits |= 1 << kind;
    }
    return bits;
  }

  /** The chance that the row comes as due from chair c on, times ten for each chair on its way. */
  private static long tenthsThatCome(Valley valley, int c, int row, int x, int due, int depth) {
    if (depth >= MOST_CHAIRS) return 0;
    int kind = valley.kindOf(c);
    int whole = Rows.knitted(kind, row);
    int slipped = Rows.knitted(kind, Rows.withoutFirst(row));
    if (valley.isAtSea(c)) return (whole == due ? TEN - x : 0) + (slipped == due ? x : 0);
    int next = valley.nextOf(c);
    return (TEN - x) * tenthsThatCome(valley, next, whole, x, due, depth + 1)
        + x * tenthsThatCome(valley, next, slipped, x, due, depth + 1);
  }

  private static long greatestDivisor(long a, long b) {
    long divisor = a;
    long rest = b;
    // Euclid's steps on numbers of ten figures are far fewer than a hundred.
    for (int i = 0; i < 100 && rest != 0; i++) {
      long left = divisor % rest;
      divisor = rest;
      rest = left;
    }
    return divisor;
  }

  private static int draw(int z, int k) {
    long x = 7919L * z + 6151L * k + 1;
    return (int) (x * x % 65521);
  }

  /** What a draw brings about in the supposed evening, ahead of its next minute. */
  private void happen(int draw) {
    int chairs = valley.size();
    if (chairs < 1) return;
    int c = draw / 8 % chairs;
    if (draw % 8 == 0) supposed.goInOrOut(c);
    if (draw % 8 == 1) {
      int first = 1 + draw / 128 % 3;
      int second = 1 + draw / 512 % 3;
      supposed.add(c, supposed.minute(), first * 4 + second);
    }
  }

  // ---- rows

  /** Rows of stitches told as numbers: figures 1 to 3 to the base of 4, the first stitch the highest. */
  private static final class Rows {
    static int length(int row) {
      int length = 0;
      while (length < MOST_STITCHES && (row >> 2 * length) > 0) length++;
      return length;
    }

    private static int stitch(int row, int behindIt) {
      return (row >> 2 * behindIt) & 3;
    }

    static int with(int row, int stitch) {
      return row * 4 + stitch;
    }

    static boolean isRow(int row) {
      if (!isBetween(row, 1, HIGHEST_ROW)) return false;
      for (int i = length(row) - 1; i >= 0; i--) {
        if (stitch(row, i) == 0) return false;
      }
      return true;
    }

    static boolean isRowOrEmpty(int row) {
      return row == 0 || isRow(row);
    }

    static int withoutFirst(int row) {
      int length = length(row);
      return length == 0 ? 0 : row - (stitch(row, length - 1) << 2 * (length - 1));
    }

    static int knitted(int kind, int row) {
      switch (kind) {
        case DROPPER: return withoutEachThird(row);
        case ADDER: return length(row) < MOST_STITCHES ? with(row, PURL) : row;
        case DEAF: return misheard(row);
        case SPY: return row == 0 ? 0 : with(row / 4, SLIP);
        default: return row;
      }
    }

    private static int withoutEachThird(int row) {
      int length = length(row);
      int knitted = 0;
      for (int place = 1; place <= length; place++) {
        if (place % 3 != 0) knitted = with(knitted, stitch(row, length - place));
      }
      return knitted;
    }

    private static int misheard(int row) {
      int knitted = 0;
      for (int i = length(row) - 1; i >= 0; i--) {
        int stitch = stitch(row, i);
        knitted = with(knitted, stitch == PLAIN_ONE ? PURL : stitch == PURL ? PLAIN_ONE : stitch);
      }
      return knitted;
    }
  }

  // ---- the text

  private static final class Letters {
    private final int[] letters = new int[MOST_LETTERS];
    private int length;

    int length() {
      return length;
    }

    boolean add(int letter) {
      if (length >= MOST_LETTERS) return false;
      set(letters, length, letter);
      length++;
      return true;
    }

    void clear() {
      length = 0;
    }

    /** The letter at a place; 0, which no text holds, behind its end. */
    int get(int place) {
      return place >= 0 && place < length && place < letters.length ? letters[place] : 0;
    }
  }

  /** Reads the text into a valley and a moment of its own, so that what is laid stays as it is. */
  private static final class Reader {
    final Letters letters = new Letters();
    final Valley valley = new Valley();
    final Moment moment = new Moment();
    private int place;

    /** The place of the first letter of the first item that is not so, or NONE. */
    int read() {
      valley.clear();
      moment.clear();
      place = 0;
      for (int items = 0; items < MOST_LETTERS && place < letters.length(); items++) {
        int first = place;
        if (!readItem()) return first;
      }
      return NONE;
    }

    private boolean readItem() {
      if (takes('c')) return readChair();
      if (takes('m')) return readMessage();
      if (takes('i')) return readIndoors();
      return false;
    }

    private boolean readChair() {
      int kind = number();
      if (kind < 0 || !takes(',')) return false;
      int pace = number();
      if (pace < 0 || !takes(',')) return false;
      int next = number();
      return next >= 0 && takes(';') && valley.add(kind, pace, next);
    }

    private boolean readMessage() {
      int c = number();
      if (c < 0 || !takes(',')) return false;
      int begins = number();
      if (begins < 0 || !takes(',')) return false;
      int row = row();
      return row > 0 && takes(';') && valley.has(c) && moment.add(c, begins, row);
    }

    private boolean readIndoors() {
      int c = number();
      if (c < 0 || !takes(';') || !valley.has(c)) return false;
      if (!moment.isIndoors(c)) moment.goInOrOut(c);
      return true;
    }

    private boolean takes(int letter) {
      if (letters.get(place) != letter) return false;
      place++;
      return true;
    }

    /** A number of one or two figures, or -1. */
    private int number() {
      int first = figure();
      if (first < 0) return -1;
      int second = figure();
      return second < 0 ? first : first * 10 + second;
    }

    private int figure() {
      int letter = letters.get(place);
      if (!isBetween(letter, '0', '9')) return -1;
      place++;
      return letter - '0';
    }

    /** A row of 1 to 8 stitches, or 0; a ninth one is left unread, where the item should end. */
    private int row() {
      int row = 0;
      for (int i = 0; i < MOST_STITCHES; i++) {
        int stitch = takes('p') ? PLAIN_ONE : takes('u') ? PURL : takes('s') ? SLIP : 0;
        if (stitch == 0) return row;
        row = Rows.with(row, stitch);
      }
      return row;
    }
  }

  // ---- the valley

  /** The chairs, whom nothing but a new valley changes. */
  private static final class Valley {
    private final int[] kinds = new int[MOST_CHAIRS];
    private final int[] paces = new int[MOST_CHAIRS];
    private final int[] nexts = new int[MOST_CHAIRS];
    private int size;

    int size() {
      return size;
    }

    boolean has(int c) {
      return c >= 0 && c < size;
    }

    int kindOf(int c) {
      return at(kinds, c);
    }

    int paceOf(int c) {
      return at(paces, c);
    }

    int nextOf(int c) {
      return at(nexts, c);
    }

    boolean isAtSea(int c) {
      return nextOf(c) == c;
    }

    void clear() {
      size = 0;
    }

    boolean add(int kind, int pace, int next) {
      if (size >= MOST_CHAIRS || !isBetween(kind, 0, KINDS - 1) || !isBetween(pace, 1, MOST_PACE)
          || !isBetween(next, 0, size)) return false;
      set(kinds, size, kind);
      set(paces, size, pace);
      set(nexts, size, next);
      size++;
      return true;
    }

    void copy(Valley from) {
      clear();
      for (int c = 0; c < from.size; c++) add(from.kindOf(c), from.paceOf(c), from.nextOf(c));
    }

    int rowAtSea(int c, int row) {
      return rowAtSeaWere(NOBODY, PLAIN, c, row);
    }

    /** What comes out of a row begun at chair c, were one chair of another kind. */
    int rowAtSeaWere(int other, int otherKind, int c, int row) {
      int chair = c;
      int knitted = row;
      for (int i = 0; i < MOST_CHAIRS; i++) {
        knitted = Rows.knitted(chair == other ? otherKind : kindOf(chair), knitted);
        if (isAtSea(chair)) break;
        chair = nextOf(chair);
      }
      return knitted;
    }

    /** The chairs by whom a row goes from chair c to the sea, as bits. */
    int wayToSea(int c) {
      int chair = c;
      int bits = 0;
      for (int i = 0; i < MOST_CHAIRS; i++) {
        bits |= 1 << chair;
        if (isAtSea(chair)) break;
        chair = nextOf(chair);
      }
      return bits;
    }

    int minutesToSea(int c) {
      int way = wayToSea(c);
      int minutes = 0;
      for (int chair = 0; chair < size; chair++) minutes += isIn(way, chair) ? paceOf(chair) : 0;
      return minutes;
    }

    int chairsToSea(int c) {
      return Integer.bitCount(wayToSea(c));
    }

    int howManyKnitBy(int c) {
      int many = 0;
      for (int from = 0; from < size; from++) many += isIn(wayToSea(from), c) ? 1 : 0;
      return many;
    }
  }

  // ---- what stands and changes

  private static final class Message {
    int begins;
    int state;
    int chair;
    int row;
    /** Minutes that the chair still takes; 0: she has not begun it. */
    int left;
    int outIn;

    void startAs(int c, int minute, int itsRow) {
      begins = minute;
      state = NOT_BEGUN;
      chair = c;
      row = itsRow;
      left = 0;
      outIn = 0;
    }

    void copy(Message from) {
      begins = from.begins;
      state = from.state;
      chair = from.chair;
      row = from.row;
      left = from.left;
      outIn = from.outIn;
    }

    boolean isAt(int c) {
      return state == AT_CHAIR && chair == c;
    }

    void goThroughMinute(Valley valley, int minute, int indoors) {
      if (state == NOT_BEGUN && begins == minute) state = AT_CHAIR;
      if (state != AT_CHAIR) return;
      if (left == 0 && !isIn(indoors, chair)) left = valley.paceOf(chair);
      if (left == 0) return;
      left--;
      if (left == 0) knitOn(valley, minute);
    }

    private void knitOn(Valley valley, int minute) {
      row = Rows.knitted(valley.kindOf(chair), row);
      if (valley.isAtSea(chair)) {
        state = CAME_OUT;
        outIn = minute;
      } else {
        chair = valley.nextOf(chair);
      }
    }

    /** The chairs, as bits, who have yet to begin it. */
    int chairsAhead(Valley valley) {
      int way = valley.wayToSea(chair);
      return left > 0 ? way & ~(1 << chair) : way;
    }

    /** In how many minutes it is out if no chair holds it. */
    int minutesToSea(Valley valley, int minute) {
      int wait = state == NOT_BEGUN ? begins - minute : 0;
      int done = left > 0 ? valley.paceOf(chair) - left : 0;
      return wait - done + valley.minutesToSea(chair);
    }
  }

  /** All as it stands between two minutes, but for the chairs themselves. */
  private static final class Moment {
    private final Message[] messages = new Message[MOST_MESSAGES];
    private final Message noMessage = new Message();
    private int size;
    private int minute;
    private int indoors;

    Moment() {
      for (int m = 0; m < messages.length; m++) messages[m] = new Message();
    }

    int size() {
      return size;
    }

    int minute() {
      return minute;
    }

    boolean has(int m) {
      return m >= 0 && m < size;
    }

    /** A message; one that counts for nothing in place of one that is not there, so that none is null. */
    Message get(int m) {
      Message message = m >= 0 && m < messages.length ? messages[m] : null;
      return message == null ? noMessage : message;
    }

    void clear() {
      size = 0;
      minute = 0;
      indoors = 0;
    }

    void copy(Moment from) {
      size = from.size;
      minute = from.minute;
      indoors = from.indoors;
      for (int m = 0; m < size; m++) get(m).copy(from.get(m));
    }

    boolean add(int c, int begins, int row) {
      if (size >= MOST_MESSAGES) return false;
      get(size).startAs(c, begins, row);
      size++;
      return true;
    }

    boolean isIndoors(int c) {
      return isIn(indoors, c);
    }

    void goInOrOut(int c) {
      indoors ^= 1 << c;
    }

    int howManyIndoors() {
      return Integer.bitCount(indoors);
    }

    void goThroughMinute(Valley valley) {
      for (int m = 0; m < size; m++) get(m).goThroughMinute(valley, minute, indoors);
      minute++;
    }

    int chairsHolding(Message message, Valley valley) {
      return message.chairsAhead(valley) & indoors;
    }

    boolean areTogether(int m, int n) {
      Message other = get(n);
      return other.state == AT_CHAIR && get(m).isAt(other.chair);
    }

    int howManyAt(int c) {
      int many = 0;
      for (int m = 0; m < size; m++) many += get(m).isAt(c) ? 1 : 0;
      return many;
    }

    int howManyAre(int state) {
      int many = 0;
      for (int m = 0; m < size; m++) many += get(m).state == state ? 1 : 0;
      return many;
    }

    int sumOfRowsOut() {
      int sum = 0;
      for (int m = 0; m < size; m++) sum += get(m).state == CAME_OUT ? get(m).row : 0;
      return sum;
    }
  }

  /** Moments one upon the other; when it is full, a new one takes the place of the oldest. */
  private static final class Pile {
    private final Moment[] moments;
    private int size;

    Pile(int most) {
      moments = new Moment[Math.max(most, 0)];
      for (int i = 0; i < moments.length; i++) moments[i] = new Moment();
    }

    int size() {
      return size;
    }

    void clear() {
      size = 0;
    }

    void put(Moment moment) {
      if (size >= moments.length) dropOldest();
      Moment top = size >= 0 && size < moments.length ? moments[size] : null;
      if (top == null) return;
      top.copy(moment);
      size++;
    }

    boolean takeInto(Moment moment) {
      int last = size - 1;
      Moment top = last >= 0 && last < moments.length ? moments[last] : null;
      if (top == null) return false;
      moment.copy(top);
      size = last;
      return true;
    }

    /** The oldest moment's object goes to the top, to be used again. */
    private void dropOldest() {
      if (moments.length == 0) return;
      Moment oldest = moments[0];
      for (int i = 1; i < moments.length; i++) moments[i - 1] = moments[i];
      moments[moments.length - 1] = oldest;
      size = moments.length - 1;
    }
  }

  // ---- what was seen

  private static final class Seen {
    private final int[] chairs = new int[MOST_SEEN];
    private final int[] rows = new int[MOST_SEEN];
    private final int[] comings = new int[MOST_SEEN];
    private int size;

    int size() {
      return size;
    }

    void clear() {
      size = 0;
    }

    boolean add(int c, int row, int coming) {
      if (size >= MOST_SEEN) return false;
      set(chairs, size, c);
      set(rows, size, row);
      set(comings, size, coming);
      size++;
      return true;
    }

    /** Whether all comes as it was seen, were one chair of another kind. */
    boolean isSo(Valley valley, int other, int otherKind) {
      for (int i = 0; i < size; i++) {
        if (valley.rowAtSeaWere(other, otherKind, at(chairs, i), at(rows, i)) != at(comings, i)) return false;
      }
      return true;
    }
  }
}
