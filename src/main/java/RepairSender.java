/**
 * A sender of a block to many receivers over a line on which packets are lost. Any k different
 * packets give a block of k data, so one repair packet serves receivers that lack different ones.
 */
public final class RepairSender {
  private static final int MAX_DATA = 8;
  private static final int MAX_VALUE = 255;
  private static final int PACKETS = 16;
  private static final int MAX_RECEIVERS = 6;
  private static final int MAX_PATIENCE = 20;
  private static final int MAX_WAIT = 20;
  private static final int LOSS_CYCLE = 11;
  private static final int MAX_LOSSES = 2047;
  private static final int MAX_AT_ONCE = 16;
  private static final int MAX_SENT = 10000;
  private static final int FIRST_DATA = 4;
  private static final int FIRST_PATIENCE = 3;

  /** The block: point i is the place i with the datum i, and the polynomial gives the packets. */
  private final Points block = new Points();
  private int patience;
  private int sentCount;
  private int reportCount;
  private int keptBackCount;

  // One row for each thing that is known of the receivers, by the receiver's number.
  private int receiverCount;
  private final int[] losses = new int[MAX_RECEIVERS];
  private final int[] waits = new int[MAX_RECEIVERS];
  private final int[] packetSets = new int[MAX_RECEIVERS];
  private final int[] badCounts = new int[MAX_RECEIVERS];
  private final boolean[] dropped = new boolean[MAX_RECEIVERS];

  // Room to rebuild in, made once; what it holds is of no meaning between two calls.
  private final Points chosen = new Points();
  private final Equations equations = new Equations();

  public RepairSender() {
    startBlock(FIRST_DATA, FIRST_PATIENCE);
  }

  // ---- the block and receivers

  /** Begins a new block; returns how many packets had been sent of the one before. */
  public int begin(int k, int patience) throws IllegalArgumentException {
    if (k < 1 || k > MAX_DATA) {
      throw new IllegalArgumentException("k is not 1 to 8");
    }
    if (patience < 1 || patience > MAX_PATIENCE) {
      throw new IllegalArgumentException("patience is not 1 to 20");
    }
    int before = sentCount;
    startBlock(k, patience);
    return before;
  }

  /** Sets a datum, as long as nothing is sent; returns the datum before. */
  public int setDatum(int place, int value)
      throws IndexOutOfBoundsException, IllegalArgumentException, IllegalStateException {
    demandPlace(place);
    if (!isFieldNumber(value)) {
      throw new IllegalArgumentException("value is not 0 to 255");
    }
    if (sentCount > 0) {
      throw new IllegalStateException("something was sent");
    }
    int before = block.values[place];
    block.values[place] = value;
    return before;
  }

  /** Lets a receiver join, without packets; returns its number. */
  public int join(int losses, int wait) throws IllegalArgumentException, IllegalStateException {
    demandLosses(losses);
    demandWait(wait);
    if (receiverCount >= MAX_RECEIVERS) {
      throw new IllegalStateException("there are 6 receivers");
    }
    int receiver = receiverCount;
    this.losses[receiver] = losses;
    waits[receiver] = wait;
    packetSets[receiver] = 0;
    badCounts[receiver] = 0;
    dropped[receiver] = false;
    receiverCount++;
    return receiver;
  }

  /** Sets the losses of a receiver for what is sent from now on; returns those before. */
  public int setLosses(int receiver, int losses)
      throws IndexOutOfBoundsException, IllegalArgumentException {
    demandReceiver(receiver);
    demandLosses(losses);
    int before = this.losses[receiver];
    this.losses[receiver] = losses;
    return before;
  }

  /** Sets the wait of a receiver; returns the wait before. */
  public int setWait(int receiver, int wait)
      throws IndexOutOfBoundsException, IllegalArgumentException {
    demandReceiver(receiver);
    demandWait(wait);
    int before = waits[receiver];
    waits[receiver] = wait;
    return before;
  }

  // ---- sending

  /** Sends packets; returns how many live receivers are complete then. */
  public int send(int many) throws IllegalArgumentException, IllegalStateException {
    if (many < 1 || many > MAX_AT_ONCE) {
      throw new IllegalArgumentException("many is not 1 to 16");
    }
    if (sentCount + many > MAX_SENT) {
      throw new IllegalStateException("more than 10000 packets would have been sent");
    }
    sendPackets(many);
    return completeCount();
  }

  /** Does a round: reports, repairs and drops; returns how many packets are sent in it. */
  public int round() throws IllegalStateException {
    // A round sends at most as many packets as a block has data.
    if (sentCount > MAX_SENT - MAX_DATA) {
      throw new IllegalStateException("more than 9992 packets have been sent");
    }
    int greatestNeed = hearReports();
    sendPackets(greatestNeed);
    countBadRounds();
    return greatestNeed;
  }

  // ---- what there is; nothing from here on changes anything

  /** Returns how many packets were sent. */
  public int sent() {
    return sentCount;
  }

  /** Returns how many receivers there are, dropped ones included. */
  public int receivers() {
    return receiverCount;
  }

  /** Returns how many reports were made, over all rounds since begin(). */
  public int reports() {
    return reportCount;
  }

  /** Returns how many reports were kept back, over all rounds since begin(). */
  public int keptBack() {
    return keptBackCount;
  }

  /** Returns the packets that a receiver has, as bits. */
  public int has(int receiver) throws IndexOutOfBoundsException {
    demandReceiver(receiver);
    return packetSets[receiver];
  }

  /** Returns the need of a receiver. */
  public int need(int receiver) throws IndexOutOfBoundsException {
    demandReceiver(receiver);
    return needOf(receiver);
  }

  /** Tells whether a receiver is dropped. */
  public boolean isDropped(int receiver) throws IndexOutOfBoundsException {
    demandReceiver(receiver);
    return dropped[receiver];
  }

  /** Returns how many bad rounds a receiver has had. */
  public int badRounds(int receiver) throws IndexOutOfBoundsException {
    demandReceiver(receiver);
    return badCounts[receiver];
  }

  // ---- the field and rebuilding

  /** Returns the product of two numbers of the field. */
  public int times(int a, int b) throws IllegalArgumentException {
    if (!isFieldNumber(a) || !isFieldNumber(b)) {
      throw new IllegalArgumentException("a or b is not 0 to 255");
    }
    return Field.product(a, b);
  }

  /** Returns the value of a packet. */
  public int packet(int packet) throws IndexOutOfBoundsException {
    if (packet < 0 || packet >= PACKETS) {
      throw new IndexOutOfBoundsException("no such packet");
    }
    return block.polynomialAt(packet);
  }

  /** Returns a datum by the polynomial through the k lowest packets that a receiver has. */
  public int rebuilt(int receiver, int place)
      throws IndexOutOfBoundsException, IllegalStateException {
    demandRebuilding(receiver, place);
    chooseLowest(packetSets[receiver]);
    return chosen.polynomialAt(place);
  }

  /** Returns a datum by solving k equations, from the k highest packets that a receiver has. */
  public int rebuiltByElimination(int receiver, int place)
      throws IndexOutOfBoundsException, IllegalStateException {
    demandRebuilding(receiver, place);
    chooseHighest(packetSets[receiver]);
    equations.write(chosen);
    equations.solve();
    return equations.polynomialAt(place);
  }

  // ---- tests of arguments

  private static boolean isFieldNumber(int number) {
    return number >= 0 && number <= MAX_VALUE;
  }

  private static void demandLosses(int losses) {
    if (losses < 0 || losses > MAX_LOSSES) {
      throw new IllegalArgumentException("losses is not 0 to 2047");
    }
  }

  private static void demandWait(int wait) {
    if (wait < 0 || wait > MAX_WAIT) {
      throw new IllegalArgumentException("wait is not 0 to 20");
    }
  }

  private void demandReceiver(int receiver) {
    if (receiver < 0 || receiver >= receiverCount) {
      throw new IndexOutOfBoundsException("no such receiver");
    }
  }

  private void demandPlace(int place) {
    if (place < 0 || place >= block.count) {
      throw new IndexOutOfBoundsException("no such place");
    }
  }

  private void demandRebuilding(int receiver, int place) {
    demandReceiver(receiver);
    demandPlace(place);
    if (needOf(receiver) > 0) {
      throw new IllegalStateException("the receiver is not complete");
    }
  }

  // ---- the steps of a block, of sending and of a round

  private void startBlock(int k, int newPatience) {
    block.clear();
    for (int place = 0; place < k; place++) {
      block.add(place, 0);
    }
    patience = newPatience;
    receiverCount = 0;
    sentCount = 0;
    reportCount = 0;
    keptBackCount = 0;
  }

  private int needOf(int receiver) {
    return Math.max(0, block.count - Integer.bitCount(packetSets[receiver]));
  }

  private boolean isLiveAndLacks(int receiver) {
    return !dropped[receiver] && needOf(receiver) > 0;
  }

  private int completeCount() {
    int complete = 0;
    for (int receiver = 0; receiver < receiverCount; receiver++) {
      if (!dropped[receiver] && needOf(receiver) == 0) {
        complete++;
      }
    }
    return complete;
  }

  private void sendPackets(int many) {
    for (int n = 0; n < many; n++) {
      sendNextPacket();
    }
  }

  private void sendNextPacket() {
    int packetBit = 1 << (sentCount % PACKETS);
    int lossBit = 1 << (sentCount % LOSS_CYCLE);
    for (int receiver = 0; receiver < receiverCount; receiver++) {
      if (!dropped[receiver] && (losses[receiver] & lossBit) == 0) {
        packetSets[receiver] |= packetBit;
      }
    }
    sentCount++;
  }

  /** Lets the receivers report in the order of their waits; returns the greatest need reported. */
  private int hearReports() {
    int greatestNeed = 0;
    for (int wait = 0; wait <= MAX_WAIT; wait++) {
      greatestNeed = hearReportsAt(wait, greatestNeed);
    }
    return greatestNeed;
  }

  /**
   * Those with the same wait report at once, so that each of them is held only against what was
   * heard behind lesser waits; returns the greatest need heard then.
   */
  private int hearReportsAt(int wait, int heardBefore) {
    int heard = heardBefore;
    for (int receiver = 0; receiver < receiverCount; receiver++) {
      if (waits[receiver] == wait && isLiveAndLacks(receiver)) {
        int lacking = needOf(receiver);
        if (lacking > heardBefore) {
          reportCount++;
          heard = Math.max(heard, lacking);
        } else {
          keptBackCount++;
        }
      }
    }
    return heard;
  }

  /** A receiver never loses what it has, so one that lacks packets now lacked some before. */
  private void countBadRounds() {
    for (int receiver = 0; receiver < receiverCount; receiver++) {
      if (isLiveAndLacks(receiver)) {
        badCounts[receiver]++;
        dropped[receiver] = badCounts[receiver] >= patience;
      }
    }
  }

  // ---- choosing packets to rebuild from

  private void chooseLowest(int packetSet) {
    chosen.clear();
    for (int number = 0; number < PACKETS; number++) {
      chooseIfWanted(packetSet, number);
    }
  }

  private void chooseHighest(int packetSet) {
    chosen.clear();
    for (int number = PACKETS - 1; number >= 0; number--) {
      chooseIfWanted(packetSet, number);
    }
  }

  private void chooseIfWanted(int packetSet, int number) {
    boolean isThere = (packetSet >> number & 1) != 0;
    if (isThere && chosen.count < block.count) {
      chosen.add(number, block.polynomialAt(number));
    }
  }

  /** The numbers 0 to 255 as a field; adding and subtracting are both the exclusive or. */
  private static final class Field {
    private static final int POLYNOMIAL = 285;
    private static final int BITS = 8;

    private static int product(int a, int b) {
      int sum = 0;
      int shifted = a;
      for (int bit = 0; bit < BITS; bit++) {
        if ((b >> bit & 1) != 0) {
          sum ^= shifted;
        }
        shifted <<= 1;
        if (shifted > MAX_VALUE) {
          shifted ^= POLYNOMIAL;
        }
      }
      return sum;
    }

    /** Each number but 0 gives 1 when raised to 255, so its power 254 is its inverse. */
    private static int inverse(int number) {
      int power = 1;
      int square = number;
      for (int bit = 1; bit < BITS; bit++) {
        square = product(square, square);
        power = product(power, square);
      }
      return power;
    }
  }

  /** Up to 8 points with different places; they tell a polynomial of a degree below their count. */
  private static final class Points {
    private final int[] places = new int[MAX_DATA];
    private final int[] values = new int[MAX_DATA];
    private int count;

    private void clear() {
      count = 0;
    }

    private void add(int place, int value) {
      if (count < MAX_DATA) {
        places[count] = place;
        values[count] = value;
        count++;
      }
    }

    /** The value, at a place, of the polynomial through the points. */
    private int polynomialAt(int place) {
      int sum = 0;
      for (int point = 0; point < count; point++) {
        sum ^= Field.product(values[point], weight(point, place));
      }
      return sum;
    }

    /** The polynomial that is 1 at the point's place and 0 at the places of all others. */
    private int weight(int point, int place) {
      int above = 1;
      int below = 1;
      for (int other = 0; other < count; other++) {
        if (other != point) {
          above = Field.product(above, place ^ places[other]);
          below = Field.product(below, places[point] ^ places[other]);
        }
      }
      return Field.product(above, Field.inverse(below));
    }
  }

  /**
   * Equations for the coefficients of the polynomial through points. Row i holds the powers 0, 1
   * and so on of the place of point i, and behind them, in the column of the count, its value.
   */
  private static final class Equations {
    private final int[][] cells = new int[MAX_DATA][MAX_DATA + 1];
    private int count;

    private void write(Points points) {
      count = points.count;
      for (int row = 0; row < count; row++) {
        int power = 1;
        for (int column = 0; column < count; column++) {
          cells[row][column] = power;
          power = Field.product(power, points.places[row]);
        }
        cells[row][count] = points.values[row];
      }
    }

    /**
     * Leaves 1 on the diagonal and 0 beside it: the last column then holds the coefficients. No
     * rows need to be swapped: the first rows and as many columns are the equations of those
     * points alone, which have one solution as the places differ, so no divisor here is 0.
     */
    private void solve() {
      for (int column = 0; column < count; column++) {
        scaleRow(column, Field.inverse(cells[column][column]));
        for (int row = 0; row < count; row++) {
          if (row != column) {
            addMultiple(row, column, cells[row][column]);
          }
        }
      }
    }

    private void scaleRow(int row, int factor) {
      for (int column = 0; column <= count; column++) {
        cells[row][column] = Field.product(cells[row][column], factor);
      }
    }

    private void addMultiple(int row, int added, int factor) {
      for (int column = 0; column <= count; column++) {
        cells[row][column] ^= Field.product(cells[added][column], factor);
      }
    }

    private int polynomialAt(int place) {
      int sum = 0;
      for (int row = count - 1; row >= 0; row--) {
        sum = Field.product(sum, place) ^ cells[row][count];
      }
      return sum;
    }
  }
}
