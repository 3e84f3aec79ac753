/** Each sentence of the document's part "Terms" that names a boundary case has a test here. */
public final class TermsTest {
  private static final int LOSES_ALL = Senders.LOSES_ALL;
  private static final int[] DATA = {200, 3, 0, 255, 17, 94, 128, 61};

  private TermsTest() {}

  public static void main(String[] args) {
    fieldFrom0To255();
    sumsWithoutCarries();
    productsWithTheRestBy285();
    eachNumberBut0HasAnInverse();
    blockOf1To8Data();
    packets0To15();
    degreeBelowK();
    firstPacketsAreTheData();
    anyKPacketsTellTheBlock();
    receiversFrom0To5();
    needAtLeast0();
    needCountsAPacketOnce();
    completeAtNeed0();
    lossesOfNoneAndOfAll();
    lossesModulo11();
    lossesCountedOverAllSendings();
    onlyLiveOnesThatHaveJoinedGetPackets();
    packetsFrom0OnAgain();
    waits0To20();
    sameWaitAtOnce();
    heardNeedNotLess();
    heardOfTheGreatestNeed();
    onlyLiveIncompleteOnesReport();
    asManyAsTheGreatestNeed();
    badRoundOnlyIfStillNotComplete();
    badRoundOfASilentOne();
    badRoundsOfALateOne();
    patience1To20();
    patience3AtFirst();
    aWholeLifeOf512Calls();
    Checks.end();
  }

  // ---- the field

  private static void fieldFrom0To255() {
    Checks.part("numbers of the field are 0 to 255");
    RepairSender sender = new RepairSender();
    Checks.due("0 * 0", 0, sender.times(0, 0));
    Checks.due("0 * 255", 0, sender.times(0, 255));
    Checks.due("255 * 0", 0, sender.times(255, 0));
    Checks.due("1 * 255", 255, sender.times(1, 255));
    Checks.due("255 * 1", 255, sender.times(255, 1));
    Checks.due("255 * 255", 226, sender.times(255, 255));
    for (int wrong : new int[] {-1, 256, -256, Integer.MIN_VALUE, Integer.MAX_VALUE}) {
      for (int other : new int[] {0, 1, 255, wrong}) {
        Twins.refused(
            wrong + " * " + other, Checks.ARGUMENT, RepairSender::new, s -> s.times(wrong, other));
        Twins.refused(
            other + " * " + wrong, Checks.ARGUMENT, RepairSender::new, s -> s.times(other, wrong));
      }
    }
  }

  /** Every packet is a sum of products with the data, so sums of data give sums of packets. */
  private static void sumsWithoutCarries() {
    Checks.part("adding is an exclusive or");
    for (int k = 1; k <= 8; k++) {
      RepairSender one = new RepairSender();
      RepairSender other = new RepairSender();
      RepairSender sum = new RepairSender();
      one.begin(k, 3);
      other.begin(k, 3);
      sum.begin(k, 3);
      for (int place = 0; place < k; place++) {
        one.setDatum(place, 255 - 3 * place);
        other.setDatum(place, 128 | 7 * place);
        sum.setDatum(place, (255 - 3 * place) ^ (128 | 7 * place));
      }
      for (int packet = 0; packet < 16; packet++) {
        int want = one.packet(packet) ^ other.packet(packet);
        Checks.due("k " + k + ", packet " + packet, want, sum.packet(packet));
      }
    }
  }

  private static void productsWithTheRestBy285() {
    Checks.part("the rest by the polynomial 285");
    RepairSender sender = new RepairSender();
    Checks.due("no carries: 15 * 17", 255, sender.times(15, 17));
    Checks.due("no carries: 3 * 3", 5, sender.times(3, 3));
    Checks.due("just no rest to take: 2 * 127", 254, sender.times(2, 127));
    Checks.due("just a rest to take: 2 * 128", 29, sender.times(2, 128));
    Checks.due("128 * 2", 29, sender.times(128, 2));
    Checks.due("bit 8 from the middle: 16 * 16", 29, sender.times(16, 16));
    Checks.due("the rest taken many times: 128 * 128", 19, sender.times(128, 128));
  }

  private static void eachNumberBut0HasAnInverse() {
    Checks.part("each number but 0 has an inverse");
    for (int a = 0; a < 256; a++) {
      RepairSender sender = new RepairSender();
      int inverses = 0;
      for (int b = 0; b < 256; b++) {
        inverses += sender.times(a, b) == 1 ? 1 : 0;
      }
      Checks.due("inverses of " + a, a == 0 ? 0 : 1, inverses);
    }
  }

  // ---- blocks and packets

  private static void blockOf1To8Data() {
    Checks.part("k data, 1 to 8, each a number of the field, 0 at first");
    for (int size = 1; size <= 8; size++) {
      int k = size;
      RepairSender sender = new RepairSender();
      sender.begin(k, 3);
      for (int place = 0; place < k; place++) {
        Checks.due("0 at first, at " + place + " of " + k, 0, sender.setDatum(place, 255));
        Checks.due("255 at " + place + " of " + k, 255, sender.setDatum(place, 0));
      }
      Checks.refused(sender, "place " + k + " of " + k, Checks.INDEX, () -> sender.setDatum(k, 0));
      sender.join(0, 0);
      Checks.due("need for " + k, k, sender.need(0));
    }
  }

  private static void packets0To15() {
    Checks.part("there are the packets 0 to 15");
    RepairSender sender = Senders.begun(3, 9);
    Checks.due("packet 0", 9, sender.packet(0));
    Checks.due("packet 15", 9, sender.packet(15));
    for (int wrong : new int[] {-1, 16, 17, Integer.MIN_VALUE, Integer.MAX_VALUE}) {
      Twins.refused(
          "packet " + wrong, Checks.INDEX, () -> Senders.begun(3, 9), s -> s.packet(wrong));
    }
  }

  /** The power k - 1 of the place is of the highest degree that there is. */
  private static void degreeBelowK() {
    Checks.part("a polynomial of a degree below k");
    for (int k = 1; k <= 8; k++) {
      RepairSender sender = new RepairSender();
      sender.begin(k, 3);
      for (int place = 0; place < k; place++) {
        sender.setDatum(place, power(place, k - 1));
      }
      for (int packet = 0; packet < 16; packet++) {
        int want = power(packet, k - 1);
        Checks.due("the power " + (k - 1) + " of " + packet, want, sender.packet(packet));
      }
    }
    // Behind 8 data that are the places to the power 8, the degree 8 may not be met.
    RepairSender sender = new RepairSender();
    sender.begin(8, 3);
    for (int place = 0; place < 8; place++) {
      sender.setDatum(place, power(place, 8));
    }
    Checks.due("the power 8 of 8", true, sender.packet(8) != power(8, 8));
  }

  private static int power(int base, int exponent) {
    int power = 1;
    for (int n = 0; n < exponent; n++) {
      power = product(power, base);
    }
    return power;
  }

  /** Multiplying as polynomials first, and taking the rest by 285 then. */
  private static int product(int a, int b) {
    int product = 0;
    for (int bit = 0; bit < 8; bit++) {
      product ^= (b >> bit & 1) * (a << bit);
    }
    for (int bit = 14; bit >= 8; bit--) {
      product ^= (product >> bit & 1) * (285 << (bit - 8));
    }
    return product;
  }

  private static void firstPacketsAreTheData() {
    Checks.part("the packets 0 to k - 1 have the data themselves");
    for (int k = 1; k <= 8; k++) {
      for (int value : new int[] {0, 1, 254, 255}) {
        RepairSender sender = new RepairSender();
        sender.begin(k, 3);
        for (int place = 0; place < k; place++) {
          sender.setDatum(place, value ^ place);
        }
        for (int place = 0; place < k; place++) {
          Checks.due("packet " + place + " of " + k, value ^ place, sender.packet(place));
        }
      }
    }
  }

  /** All the sets of k of the 16 packets, six of them at a time. */
  private static void anyKPacketsTellTheBlock() {
    Checks.part("any k packets tell f");
    for (int k = 1; k <= 8; k++) {
      int[] sets = new int[6];
      int count = 0;
      for (int set = 0; set < 1 << 16; set++) {
        if (Integer.bitCount(set) == k) {
          sets[count++] = set;
        }
        if (count == 6 || set == (1 << 16) - 1) {
          rebuildsFrom(k, sets, count);
          count = 0;
        }
      }
    }
  }

  private static void rebuildsFrom(int k, int[] sets, int count) {
    RepairSender sender = new RepairSender();
    sender.begin(k, 3);
    for (int place = 0; place < k; place++) {
      sender.setDatum(place, DATA[place]);
    }
    for (int receiver = 0; receiver < count; receiver++) {
      sender.join(0, 0);
    }
    for (int packet = 0; packet < 16; packet++) {
      for (int receiver = 0; receiver < count; receiver++) {
        boolean wanted = (sets[receiver] >> packet & 1) != 0;
        sender.setLosses(receiver, wanted ? 0 : LOSES_ALL);
      }
      sender.send(1);
    }
    for (int receiver = 0; receiver < count; receiver++) {
      int place = (sets[receiver] + receiver) % k;
      String what = "k " + k + ", packets " + sets[receiver] + ", place " + place;
      Checks.due(what, sets[receiver], sender.has(receiver));
      Checks.due(what, DATA[place], sender.rebuilt(receiver, place));
      Checks.due(what + ", elimination", DATA[place], sender.rebuiltByElimination(receiver, place));
    }
  }

  // ---- receivers

  private static void receiversFrom0To5() {
    Checks.part("receivers are numbered from 0 on; there are at most 6");
    RepairSender sender = new RepairSender();
    for (int number = 0; number < 6; number++) {
      Checks.due("how many", number, sender.receivers());
      Checks.due("the number", number, sender.join(0, 0));
    }
    Checks.refused(sender, "a seventh", Checks.STATE, () -> sender.join(0, 0));
    Checks.due("still", 6, sender.receivers());
    sender.begin(2, 1);
    Checks.due("from 0 on again", 0, sender.join(LOSES_ALL, 0));
    sender.round();
    Checks.due("dropped", true, sender.isDropped(0));
    Checks.due("the number of a dropped one is not given again", 1, sender.join(0, 0));
  }

  private static void needAtLeast0() {
    Checks.part("need: k less the packets, at least 0");
    for (int k = 1; k <= 8; k++) {
      RepairSender sender = new RepairSender();
      sender.begin(k, 3);
      sender.join(0, 0);
      for (int sent = 0; sent <= 16; sent++) {
        int want = sent < k ? k - sent : 0;
        Checks.due("k " + k + ", packets " + sent, want, sender.need(0));
        sender.send(1);
      }
    }
  }

  /** Packet 0 comes with the numbers 0, 16 and 32; a set has it once. */
  private static void needCountsAPacketOnce() {
    Checks.part("a set of packets");
    RepairSender sender = Senders.begun(3, 7, 8);
    sender.join(0, 0);
    for (int time = 0; time < 3; time++) {
      sender.setLosses(0, 0);
      Checks.due("complete ones", 0, sender.send(1));
      sender.setLosses(0, LOSES_ALL);
      sender.send(15);
      Checks.due("just packet 0", 1, sender.has(0));
      Checks.due("one more is needed", 1, sender.need(0));
    }
    Checks.due("a round sends packet 0 in vain", 1, sender.round());
    sender.setLosses(0, 0);
    Checks.due("and packet 1 then", 1, sender.round());
    Checks.due("both", 0b11, sender.has(0));
    Checks.due("complete", 0, sender.need(0));
  }

  private static void completeAtNeed0() {
    Checks.part("complete if its need is 0; then it can rebuild the block");
    for (int k = 1; k <= 8; k++) {
      RepairSender sender = new RepairSender();
      sender.begin(k, 3);
      sender.setDatum(0, 255);
      sender.join(0, 0);
      for (int sent = 0; sent < k; sent++) {
        String what = "with " + sent + " of " + k;
        String state = "IllegalStateException";
        Checks.due("need", k - sent, sender.need(0));
        Checks.same(what, state, Twins.outcome(sender, s -> s.rebuilt(0, 0)));
        Checks.same(what, state, Twins.outcome(sender, s -> s.rebuiltByElimination(0, 0)));
        Checks.due("complete with one more", sent + 1 == k ? 1 : 0, sender.send(1));
      }
      Checks.due("rebuilt", 255, sender.rebuilt(0, 0));
      Checks.due("rebuilt by elimination", 255, sender.rebuiltByElimination(0, 0));
    }
  }

  // ---- losses and the order of sending

  private static void lossesOfNoneAndOfAll() {
    Checks.part("losses, a number from 0 to 2047");
    RepairSender sender = new RepairSender();
    sender.join(0, 0);
    sender.join(2047, 0);
    sender.join(2046, 0);
    sender.join(1023, 0);
    sender.send(16);
    Checks.due("0: gets all", 0xffff, sender.has(0));
    Checks.due("2047: gets none", 0, sender.has(1));
    Checks.due("2046: gets the numbers 0 and 11", 1 | 1 << 11, sender.has(2));
    Checks.due("1023: gets the number 10", 1 << 10, sender.has(3));
    sender.send(16);
    Checks.due("2047: none ever", 0, sender.has(1));
    Checks.due("2046: the number 22 too", 1 | 1 << 11 | 1 << 6, sender.has(2));
    Checks.due("1023: the numbers 21 too", 1 << 10 | 1 << 5, sender.has(3));
  }

  /** Late receivers, each of which loses one bit's packets, around each multiple of 11 and 16. */
  private static void lossesModulo11() {
    Checks.part("if the bit s modulo 11 of its losses is set");
    int[] numbers = {0, 1, 9, 10, 11, 12, 15, 16, 20, 21, 22, 23, 31, 32, 33, 175, 176, 177, 6000};
    for (int number : numbers) {
      for (int firstBit = 0; firstBit < 11; firstBit += 6) {
        RepairSender sender = new RepairSender();
        Senders.sendInAll(sender, number);
        for (int bit = firstBit; bit < firstBit + 6 && bit < 11; bit++) {
          sender.join(1 << bit, 0);
        }
        sender.send(1);
        for (int bit = firstBit; bit < firstBit + 6 && bit < 11; bit++) {
          int want = number % 11 == bit ? 0 : 1 << (number % 16);
          Checks.due("number " + number + ", bit " + bit, want, sender.has(bit - firstBit));
        }
      }
    }
  }

  private static void lossesCountedOverAllSendings() {
    Checks.part("of all packets that are sent, counted over all sendings");
    RepairSender sender = new RepairSender();
    sender.begin(5, 20);
    sender.join(LOSES_ALL, 0);
    sender.send(3);
    Checks.due("a round's packets count", 5, sender.round());
    Checks.due("late", 1, sender.join(1 << 10, 0));
    sender.send(2);
    Checks.due("the numbers 8 and 9", 1 << 8 | 1 << 9, sender.has(1));
    sender.send(1);
    Checks.due("the number 10 is lost", 1 << 8 | 1 << 9, sender.has(1));
    Checks.due("the losses are those of now", 1 << 10, sender.setLosses(1, 1));
    Checks.due("a round goes on at 11", 5, sender.round());
    Checks.due("the number 11 is lost in it", 0b1111_0011_0000_0000, sender.has(1));
    sender.begin(5, 20);
    sender.join(1, 0);
    sender.send(1);
    Checks.due("counted from 0 on behind begin", 0, sender.has(0));
  }

  private static void onlyLiveOnesThatHaveJoinedGetPackets() {
    Checks.part("all live receivers that have joined get each other packet");
    RepairSender sender = Senders.begun(1, 1, 2);
    sender.send(3);
    sender.join(LOSES_ALL, 0);
    Checks.due("nothing of before", 0, sender.has(0));
    sender.round();
    Checks.due("dropped", true, sender.isDropped(0));
    Checks.due("its losses can be set", LOSES_ALL, sender.setLosses(0, 0));
    Checks.due("its wait can be set", 0, sender.setWait(0, 20));
    sender.join(0, 0);
    sender.join(0, 20);
    sender.send(1);
    Checks.due("a dropped one gets nothing", 0, sender.has(0));
    Checks.due("the first live one", 1 << 5, sender.has(1));
    Checks.due("the second live one", 1 << 5, sender.has(2));
    sender.round();
    Checks.due("nothing in a round", 0, sender.has(0));
    Checks.due("the live one in a round", 1 << 5 | 1 << 6, sender.has(1));
    Checks.due("dropped for ever", true, sender.isDropped(0));
  }

  private static void packetsFrom0OnAgain() {
    Checks.part("packets 0, 1 and so on to 15, and then from 0 on again");
    for (int before = 0; before <= 33; before++) {
      for (int many : new int[] {1, 2, 15, 16}) {
        RepairSender sender = new RepairSender();
        Senders.sendInAll(sender, before);
        sender.join(0, 0);
        sender.send(many);
        int want = 0;
        for (int number = before; number < before + many; number++) {
          want |= 1 << (number % 16);
        }
        Checks.due(many + " behind " + before, want, sender.has(0));
      }
    }
    RepairSender sender = new RepairSender();
    sender.send(14);
    sender.join(0, 0);
    Checks.due("a round", 4, sender.round());
    Checks.due("packets 14, 15, 0 and 1", 0b1100_0000_0000_0011, sender.has(0));
    sender.begin(1, 1);
    sender.join(0, 0);
    sender.round();
    Checks.due("0 at first, behind begin", 1, sender.has(0));
  }

  // ---- rounds

  private static void rounds(
      String what, int[] needs, int[] waits, int sent, int reports, int keptBack) {
    RepairSender sender = Senders.needing(20, needs, waits);
    for (int receiver = 0; receiver < needs.length; receiver++) {
      Checks.due(what + ", need of " + receiver, needs[receiver], sender.need(receiver));
    }
    Checks.due(what + ", sent", sent, sender.round());
    Checks.due(what + ", sent in all", 8 + sent, sender.sent());
    Checks.due(what + ", reports", reports, sender.reports());
    Checks.due(what + ", kept back", keptBack, sender.keptBack());
  }

  private static void waits0To20() {
    Checks.part("behind its wait, 0 to 20");
    for (int wait = 0; wait <= 20; wait++) {
      rounds("alone behind " + wait, new int[] {3}, new int[] {wait}, 3, 1, 0);
    }
    for (int wait = 1; wait <= 20; wait++) {
      int[] waits = {wait, wait - 1};
      rounds("the second is before " + wait, new int[] {3, 3}, waits, 3, 1, 1);
    }
    rounds("0 is before 20", new int[] {2, 3}, new int[] {20, 0}, 3, 1, 1);
    rounds("20 is behind 0", new int[] {3, 2}, new int[] {20, 0}, 3, 2, 0);
  }

  private static void sameWaitAtOnce() {
    Checks.part("those with the same wait at once");
    for (int wait : new int[] {0, 1, 19, 20}) {
      int[] waits = {wait, wait, wait, wait, wait, wait};
      rounds("alike, " + wait, new int[] {3, 3, 3, 3, 3, 3}, waits, 3, 6, 0);
      rounds("falling, " + wait, new int[] {8, 7, 4, 3, 2, 1}, waits, 8, 6, 0);
      rounds("rising, " + wait, new int[] {1, 2, 3, 4, 7, 8}, waits, 8, 6, 0);
    }
    int[] needs = {3, 4, 3, 5, 2, 6};
    rounds("at once behind one", needs, new int[] {0, 7, 7, 7, 7, 7}, 6, 4, 2);
  }

  private static void heardNeedNotLess() {
    Checks.part("a lesser wait whose need was not less than its own");
    for (int need = 1; need <= 8; need++) {
      int[] waits = {4, 5};
      rounds("equal " + need, new int[] {need, need}, waits, need, 1, 1);
      if (need < 8) {
        rounds("greater " + need, new int[] {need + 1, need}, waits, need + 1, 1, 1);
        rounds("less " + need, new int[] {need, need + 1}, waits, need + 1, 2, 0);
      }
    }
  }

  /** Not the report heard last, nor that of the next lower wait, but the greatest decides. */
  private static void heardOfTheGreatestNeed() {
    Checks.part("unless it has heard a report");
    rounds("5, 4 and then 5", new int[] {5, 4, 5}, new int[] {1, 1, 2}, 5, 2, 1);
    rounds("4, 5 and then 5", new int[] {4, 5, 5}, new int[] {1, 1, 2}, 5, 2, 1);
    rounds("3, a silent 1, then 2", new int[] {3, 1, 2}, new int[] {0, 1, 2}, 3, 1, 2);
    rounds("2, a silent 2, then 3", new int[] {2, 2, 3}, new int[] {0, 1, 2}, 3, 2, 1);
    rounds("1 to 6 in turn", new int[] {6, 5, 4, 3, 2, 1}, new int[] {20, 16, 12, 8, 4, 0}, 6, 6, 0);
    rounds("6 to 1 in turn", new int[] {6, 5, 4, 3, 2, 1}, new int[] {0, 4, 8, 12, 16, 20}, 6, 1, 5);
  }

  private static void onlyLiveIncompleteOnesReport() {
    Checks.part("each live receiver that is not complete wants to report");
    rounds("no receivers", new int[] {}, new int[] {}, 0, 0, 0);
    rounds("one complete", new int[] {0}, new int[] {0}, 0, 0, 0);
    rounds("all complete", new int[] {0, 0, 0, 0, 0, 0}, new int[] {0, 1, 1, 2, 3, 20}, 0, 0, 0);
    rounds("a complete one before", new int[] {0, 1}, new int[] {0, 1}, 1, 1, 0);
    rounds("a complete one behind", new int[] {1, 0}, new int[] {0, 1}, 1, 1, 0);
    RepairSender sender = Senders.needingForEver(1, new int[] {8, 1}, new int[] {0, 1});
    Checks.due("the greatest need", 8, sender.round());
    Checks.due("one report", 1, sender.reports());
    Checks.due("all are dropped", 0, sender.round());
    Checks.due("nothing more is sent", 16, sender.sent());
    Checks.due("nor reported", 1, sender.reports());
    Checks.due("nor kept back", 1, sender.keptBack());
    Checks.due("late", 2, sender.join(0, 20));
    Senders.sendInAll(sender, 6);
    Checks.due("a dropped one's need is not reported", 2, sender.round());
    Checks.due("nor does it silence", 2, sender.reports());
  }

  private static void asManyAsTheGreatestNeed() {
    Checks.part("as many packets as the greatest need that was reported");
    for (int need = 0; need <= 8; need++) {
      rounds("need " + need, new int[] {need}, new int[] {9}, need, need == 0 ? 0 : 1, 0);
    }
    rounds("the greatest reports last", new int[] {1, 8}, new int[] {0, 20}, 8, 2, 0);
    rounds("not the sum", new int[] {3, 3, 2}, new int[] {0, 0, 0}, 3, 3, 0);
  }

  private static void badRoundOnlyIfStillNotComplete() {
    Checks.part("one more bad round, if it still is not complete");
    RepairSender sender = Senders.needing(20, new int[] {0, 2, 2, 2}, new int[] {0, 0, 0, 0});
    sender.setLosses(0, LOSES_ALL);
    sender.setLosses(2, 1 << 9);
    sender.setLosses(3, LOSES_ALL);
    Checks.due("sent", 2, sender.round());
    Checks.due("complete before", 0, sender.badRounds(0));
    Checks.due("complete by the round", 0, sender.badRounds(1));
    Checks.due("one is still lacking", 1, sender.badRounds(2));
    Checks.due("two are still lacking", 1, sender.badRounds(3));
    Checks.due("sent again", 2, sender.round());
    Checks.due("complete by the second round", 1, sender.badRounds(2));
    Checks.due("two bad rounds", 2, sender.badRounds(3));
    sender.send(16);
    Checks.due("sending is no round", 2, sender.badRounds(3));
  }

  private static void badRoundOfASilentOne() {
    Checks.part("a silent one has its bad round too");
    RepairSender sender = Senders.needingForEver(2, new int[] {2, 1, 2}, new int[] {0, 1, 20});
    sender.round();
    Checks.due("two were silent", 2, sender.keptBack());
    for (int receiver = 0; receiver < 3; receiver++) {
      Checks.due("bad rounds of " + receiver, 1, sender.badRounds(receiver));
      Checks.due("live " + receiver, false, sender.isDropped(receiver));
    }
    sender.round();
    for (int receiver = 0; receiver < 3; receiver++) {
      Checks.due("again, of " + receiver, 2, sender.badRounds(receiver));
      Checks.due("dropped " + receiver, true, sender.isDropped(receiver));
    }
  }

  private static void badRoundsOfALateOne() {
    Checks.part("as many bad rounds as the patience tells, each receiver for itself");
    RepairSender sender = Senders.begun(3, 1, 2);
    sender.join(LOSES_ALL, 0);
    sender.round();
    sender.round();
    sender.join(LOSES_ALL, 0);
    sender.round();
    Checks.due("the first is dropped", true, sender.isDropped(0));
    Checks.due("the late one is not", false, sender.isDropped(1));
    Checks.due("it has had one", 1, sender.badRounds(1));
    sender.round();
    Checks.due("two", false, sender.isDropped(1));
    sender.round();
    Checks.due("three", true, sender.isDropped(1));
    sender.round();
    Checks.due("no more behind the dropping", 3, sender.badRounds(0));
    Checks.due("nor of the late one", 3, sender.badRounds(1));
  }

  private static void patience1To20() {
    Checks.part("dropped if it has had as many bad rounds as the patience tells");
    for (int patience = 1; patience <= 20; patience++) {
      RepairSender sender = Senders.begun(patience, 1);
      sender.join(LOSES_ALL, 20);
      for (int round = 1; round <= patience; round++) {
        Checks.due("patience " + patience + ", before " + round, false, sender.isDropped(0));
        Checks.due("round " + round, 1, sender.round());
        Checks.due("bad rounds", round, sender.badRounds(0));
      }
      Checks.due("patience " + patience, true, sender.isDropped(0));
      Checks.due("and no round more", 0, sender.round());
    }
  }

  private static void patience3AtFirst() {
    Checks.part("the patience, 3 at first");
    RepairSender sender = new RepairSender();
    sender.join(LOSES_ALL, 0);
    for (int round = 1; round <= 3; round++) {
      Checks.due("before round " + round, false, sender.isDropped(0));
      sender.round();
    }
    Checks.due("behind round 3", true, sender.isDropped(0));
  }

  private static void aWholeLifeOf512Calls() {
    Checks.part("at most 512 calls");
    RepairSender sender = new RepairSender();
    sender.join(0, 0);
    for (int call = 2; call <= 511; call++) {
      Checks.due("call " + call, 1, sender.send(16));
    }
    Checks.due("call 512", 510 * 16, sender.begin(8, 20));
    RepairSender many = new RepairSender();
    for (int call = 1; call <= 511; call++) {
      Checks.due("begin " + call, 0, many.begin(1 + call % 8, 1 + call % 20));
    }
    Checks.due("need behind 511 blocks", 0, many.join(2047, 20));
  }
}
