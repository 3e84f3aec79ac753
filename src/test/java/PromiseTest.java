/** Each promise of the document by itself: ordinary inputs, the named edges, wrong inputs. */
public final class PromiseTest {
  private static final int LOSES_ALL = Senders.LOSES_ALL;
  private static final int[] WRONG_INDEXES = {-1, Integer.MIN_VALUE, Integer.MAX_VALUE};

  private PromiseTest() {}

  public static void main(String[] args) {
    promise1NewObject();
    promise2Begin();
    promise2BeginRefuses();
    promise3SetDatum();
    promise4Join();
    promise5SetLosses();
    promise6SetWait();
    promise7Send();
    promise7SendOrderAndLosses();
    promise7SendIsNeverTooMuch();
    promise8RoundRepairs();
    promise8RoundDrops();
    promise8RoundIsNeverTooMuch();
    promise9Sent();
    promise10Receivers();
    promise11Reports();
    promise12KeptBack();
    promise13Has();
    promise14Need();
    promise15IsDropped();
    promise16BadRounds();
    promise17Times();
    promise17TimesIsThatOfAField();
    promise18Packet();
    promise19Rebuilt();
    promise20RebuiltByElimination();
    Checks.end();
  }

  private static void promise1NewObject() {
    Checks.part("promise 1");
    RepairSender sender = new RepairSender();
    Checks.due("sent", 0, sender.sent());
    Checks.due("receivers", 0, sender.receivers());
    Checks.due("reports", 0, sender.reports());
    Checks.due("keptBack", 0, sender.keptBack());
    for (int packet = 0; packet < 16; packet++) {
      Checks.due("packet " + packet, 0, sender.packet(packet));
    }
    Checks.refused(sender, "a fifth datum", Checks.INDEX, () -> sender.setDatum(4, 1));
    Checks.due("the fourth datum", 0, sender.setDatum(3, 1));
    sender.join(LOSES_ALL, 0);
    Checks.due("the need is that of 4 data", 4, sender.need(0));
    sender.round();
    sender.round();
    Checks.due("not dropped behind 2 bad rounds", false, sender.isDropped(0));
    sender.round();
    Checks.due("dropped behind 3 bad rounds", true, sender.isDropped(0));
    Checks.due("another object has nothing of it", 0, new RepairSender().sent());
  }

  private static void promise2Begin() {
    Checks.part("promise 2");
    RepairSender sender = Senders.begun(2, 7, 8, 9);
    sender.join(LOSES_ALL, 1);
    sender.join(0, 2);
    sender.send(5);
    sender.round();
    Checks.due("the sent ones of the block before", 8, sender.begin(8, 1));
    Checks.due("sent", 0, sender.sent());
    Checks.due("receivers", 0, sender.receivers());
    Checks.due("reports", 0, sender.reports());
    Checks.due("keptBack", 0, sender.keptBack());
    Checks.due("a datum", 0, sender.packet(0));
    Checks.due("a packet beyond the data", 0, sender.packet(15));
    Checks.refused(sender, "a receiver of before", Checks.INDEX, () -> sender.has(0));
    Checks.due("a datum can be set again", 0, sender.setDatum(0, 5));
    Checks.due("numbers of receivers begin anew", 0, sender.join(LOSES_ALL, 0));
    Checks.due("a new receiver has nothing of the old one", 0, sender.has(0));
    Checks.due("the new need", 8, sender.need(0));
    Checks.due("no bad rounds", 0, sender.badRounds(0));
    Checks.due("a second one", 1, sender.join(0, 0));
    sender.send(1);
    Checks.due("sending begins with packet 0", 1, sender.has(1));
    sender.round();
    Checks.due("the new patience", true, sender.isDropped(0));
    Checks.due("sent since", 9, sender.begin(1, 20));
    Checks.due("an old dropping is forgotten", 0, sender.join(0, 0));
    Checks.due("not dropped", false, sender.isDropped(0));
    Checks.due("the losses begin anew with the count", 1, sender.send(1));
    Checks.due("one was sent", 1, sender.begin(1, 1));
    Checks.due("nothing was sent", 0, sender.begin(1, 1));
  }

  private static void promise2BeginRefuses() {
    Checks.part("promise 2");
    RepairSender sender = Senders.begun(2, 7, 8, 9);
    sender.join(LOSES_ALL, 1);
    sender.send(5);
    for (int wrong : new int[] {0, 9}) {
      Checks.refused(sender, "begin with k " + wrong, Checks.ARGUMENT, () -> sender.begin(wrong, 1));
    }
    for (int wrong : new int[] {0, 21}) {
      Checks.refused(
          sender, "begin with patience " + wrong, Checks.ARGUMENT, () -> sender.begin(1, wrong));
    }
    Checks.refused(sender, "begin with both wrong", Checks.ARGUMENT, () -> sender.begin(0, 0));
    sender.round();
    Checks.due("one bad round", false, sender.isDropped(0));
    sender.round();
    Checks.due("the patience stayed", true, sender.isDropped(0));
  }

  private static void promise3SetDatum() {
    Checks.part("promise 3");
    RepairSender sender = Senders.begun(3, 0, 0, 0);
    Checks.due("first", 0, sender.setDatum(2, 255));
    Checks.due("second", 255, sender.setDatum(2, 17));
    Checks.due("third", 17, sender.setDatum(2, 0));
    Checks.due("another place is untouched", 0, sender.setDatum(0, 9));
    Checks.due("its packet", 9, sender.packet(0));
    for (int wrong : new int[] {-1, 3}) {
      Checks.refused(sender, "place " + wrong, Checks.INDEX, () -> sender.setDatum(wrong, 1));
    }
    for (int wrong : new int[] {-1, 256}) {
      Checks.refused(sender, "value " + wrong, Checks.ARGUMENT, () -> sender.setDatum(1, wrong));
    }
    Checks.refused(sender, "place and value", Checks.INDEX, () -> sender.setDatum(3, 256));
    sender.join(0, 0);
    Checks.due("a receiver alone does not hinder", 9, sender.setDatum(0, 10));
    sender.begin(1, 1);
    sender.round();
    Checks.due("a round that sends nothing does not hinder", 0, sender.setDatum(0, 3));
    sender.send(1);
    Checks.refused(sender, "behind a sending", Checks.STATE, () -> sender.setDatum(0, 4));
    Checks.refused(sender, "the same value", Checks.STATE, () -> sender.setDatum(0, 3));
    Checks.refused(sender, "place, sent", Checks.INDEX, () -> sender.setDatum(1, 4));
    Checks.refused(sender, "value, sent", Checks.ARGUMENT, () -> sender.setDatum(0, -1));
  }

  private static void promise4Join() {
    Checks.part("promise 4");
    RepairSender sender = Senders.begun(1, 1, 2);
    Checks.due("first", 0, sender.join(LOSES_ALL, 0));
    for (int wrong : new int[] {-1, 2048}) {
      Checks.refused(sender, "losses " + wrong, Checks.ARGUMENT, () -> sender.join(wrong, 0));
    }
    for (int wrong : new int[] {-1, 21}) {
      Checks.refused(sender, "wait " + wrong, Checks.ARGUMENT, () -> sender.join(0, wrong));
    }
    sender.round();
    Checks.due("dropped", true, sender.isDropped(0));
    Checks.due("second, late", 1, sender.join(0, 20));
    Checks.due("without the packets of before", 0, sender.has(1));
    Checks.due("its need", 2, sender.need(1));
    Checks.due("its bad rounds", 0, sender.badRounds(1));
    sender.send(1);
    Checks.due("the packet since", 1 << 2, sender.has(1));
    for (int number = 2; number < 6; number++) {
      Checks.due("another", number, sender.join(number, number));
    }
    Checks.refused(sender, "a seventh", Checks.STATE, () -> sender.join(0, 0));
    Checks.refused(sender, "a seventh, losses", Checks.ARGUMENT, () -> sender.join(2048, 0));
    Checks.refused(sender, "a seventh, wait", Checks.ARGUMENT, () -> sender.join(0, 21));
    Checks.due("the losses and the wait that were given", 5, sender.setLosses(5, 0));
    Checks.due("the wait that was given", 5, sender.setWait(5, 0));
  }

  private static void promise5SetLosses() {
    Checks.part("promise 5");
    RepairSender sender = Senders.begun(3, 1, 2, 3);
    sender.join(1, 4);
    sender.join(6, 4);
    sender.send(1);
    Checks.due("before", 1, sender.setLosses(0, LOSES_ALL));
    Checks.due("before that", LOSES_ALL, sender.setLosses(0, 4));
    Checks.due("nothing of the past changes", 0, sender.has(0));
    sender.send(2);
    Checks.due("lost by the new losses", 0b010, sender.has(0));
    Checks.due("the other's losses stayed", 0b001, sender.has(1));
    Checks.due("the other's", 6, sender.setLosses(1, 0));
    Checks.due("the wait stayed", 4, sender.setWait(0, 4));
    for (int wrong : new int[] {-1, 2}) {
      Checks.refused(sender, "receiver " + wrong, Checks.INDEX, () -> sender.setLosses(wrong, 0));
      Checks.refused(sender, "both " + wrong, Checks.INDEX, () -> sender.setLosses(wrong, -1));
    }
    for (int wrong : new int[] {-1, 2048}) {
      Checks.refused(sender, "losses " + wrong, Checks.ARGUMENT, () -> sender.setLosses(0, wrong));
    }
    Checks.due("the refused changed nothing", 4, sender.setLosses(0, 0));
  }

  private static void promise6SetWait() {
    Checks.part("promise 6");
    RepairSender sender = Senders.begun(20, 1, 2, 3);
    sender.join(LOSES_ALL, 7);
    sender.join(LOSES_ALL, 7);
    sender.round();
    Checks.due("both report at once", 2, sender.reports());
    Checks.due("before", 7, sender.setWait(1, 20));
    sender.round();
    Checks.due("the later one is silent", 3, sender.reports());
    Checks.due("kept back", 1, sender.keptBack());
    Checks.due("before that", 20, sender.setWait(1, 0));
    Checks.due("the other's stayed", 7, sender.setWait(0, 7));
    Checks.due("the losses stayed", LOSES_ALL, sender.setLosses(1, LOSES_ALL));
    for (int wrong : new int[] {-1, 2}) {
      Checks.refused(sender, "receiver " + wrong, Checks.INDEX, () -> sender.setWait(wrong, 0));
      Checks.refused(sender, "both " + wrong, Checks.INDEX, () -> sender.setWait(wrong, -1));
    }
    for (int wrong : new int[] {-1, 21}) {
      Checks.refused(sender, "wait " + wrong, Checks.ARGUMENT, () -> sender.setWait(1, wrong));
    }
    Checks.due("the refused changed nothing", 0, sender.setWait(1, 0));
  }

  private static void promise7Send() {
    Checks.part("promise 7");
    RepairSender sender = Senders.begun(1, 1, 2);
    Checks.due("nobody is there", 0, sender.send(16));
    sender.join(LOSES_ALL, 0);
    sender.join(0, 0);
    sender.join(1 << 5, 0);
    Checks.due("one of two packets lost", 1, sender.send(2));
    Checks.due("one more", 2, sender.send(1));
    for (int wrong : new int[] {0, -1, 17, Integer.MIN_VALUE, Integer.MAX_VALUE}) {
      Checks.refused(sender, "send " + wrong, Checks.ARGUMENT, () -> sender.send(wrong));
    }
    sender.round();
    Checks.due("dropped", true, sender.isDropped(0));
    sender.setLosses(0, 0);
    Checks.due("a dropped one is not counted", 2, sender.send(16));
    Checks.due("and gets nothing", 0, sender.has(0));
  }

  private static void promise7SendOrderAndLosses() {
    Checks.part("promise 7");
    RepairSender sender = Senders.begun(20, 1, 2, 3, 4, 5, 6, 7, 8);
    for (int receiver = 0; receiver < 6; receiver++) {
      sender.join(receiver == 0 ? 0 : 1 << (2 * receiver), 0);
    }
    int[] sets = new int[6];
    for (int number = 0; number < 40; number++) {
      sender.send(1);
      for (int receiver = 0; receiver < 6; receiver++) {
        boolean lost = receiver > 0 && number % 11 == 2 * receiver;
        sets[receiver] |= lost ? 0 : 1 << (number % 16);
        Checks.due("packet " + number + " at " + receiver, sets[receiver], sender.has(receiver));
      }
    }
  }

  /**
   * Within its 512 calls an object sends 8192 packets at most, so the limit of 10000 is never met:
   * no sending may be refused for the state.
   */
  private static void promise7SendIsNeverTooMuch() {
    Checks.part("promise 7");
    RepairSender sender = new RepairSender();
    sender.begin(1, 20);
    for (int call = 2; call <= 509; call++) {
      Checks.due("call " + call, 0, sender.send(16));
    }
    Checks.due("late", 0, sender.join(0, 0));
    Checks.due("the last sending", 1, sender.send(16));
    Checks.due("call 512", 509 * 16, sender.sent());
  }

  private static void promise8RoundRepairs() {
    Checks.part("promise 8");
    RepairSender sender = Senders.begun(3, 1, 2, 3, 4);
    Checks.due("nobody is there", 0, sender.round());
    sender.join(0b0001, 3);
    sender.join(0b0110, 1);
    sender.join(0b1000, 2);
    sender.join(0, 0);
    sender.send(4);
    Checks.due("the greatest need", 2, sender.round());
    Checks.due("sent", 6, sender.sent());
    Checks.due("one packet serves many", 0b111110, sender.has(0));
    Checks.due("two for the second", 0b111001, sender.has(1));
    Checks.due("a complete one gets them too", 0b111111, sender.has(3));
    for (int receiver = 0; receiver < 4; receiver++) {
      Checks.due("complete", 0, sender.need(receiver));
      Checks.due("no bad round", 0, sender.badRounds(receiver));
    }
    Checks.due("all are complete", 0, sender.round());
    Checks.due("nothing more", 6, sender.sent());
    Checks.due("late", 4, sender.join(0, 9));
    Checks.due("the late one's need", 4, sender.round());
  }

  private static void promise8RoundDrops() {
    Checks.part("promise 8");
    RepairSender sender = Senders.begun(2, 1, 2, 3);
    sender.join(LOSES_ALL, 0);
    sender.join(0b110, 0);
    Checks.due("round 1", 3, sender.round());
    Checks.due("the first is live", false, sender.isDropped(0));
    Checks.due("a bad round of the second", 1, sender.badRounds(1));
    Checks.due("round 2", 3, sender.round());
    Checks.due("the first is dropped", true, sender.isDropped(0));
    Checks.due("the second is complete", 0, sender.need(1));
    Checks.due("without a further bad round", 1, sender.badRounds(1));
    Checks.due("a dropped one reports nothing", 0, sender.round());
    Checks.due("and keeps its bad rounds", 2, sender.badRounds(0));
    Checks.due("nor keeps anything back", 0, sender.keptBack());
  }

  /** Nor are there 9993 packets within 512 calls: no round may be refused. */
  private static void promise8RoundIsNeverTooMuch() {
    Checks.part("promise 8");
    RepairSender sender = new RepairSender();
    sender.begin(8, 20);
    for (int call = 2; call <= 507; call++) {
      sender.send(16);
    }
    Checks.due("nobody lacks anything", 0, sender.round());
    Checks.due("late", 0, sender.join(LOSES_ALL, 0));
    Checks.due("one lacks all", 8, sender.round());
    Checks.due("and again", 8, sender.round());
    Checks.due("call 512", 506 * 16 + 16, sender.sent());
  }

  private static void promise9Sent() {
    Checks.part("promise 9");
    RepairSender sender = Senders.begun(3, 1, 2);
    Checks.due("first", 0, sender.sent());
    sender.send(1);
    Checks.due("one", 1, sender.sent());
    sender.send(16);
    Checks.due("beyond 16", 17, sender.sent());
    sender.join(0, 0);
    sender.round();
    Checks.due("those of a round too", 19, sender.sent());
    sender.begin(2, 3);
    Checks.due("anew", 0, sender.sent());
  }

  private static void promise10Receivers() {
    Checks.part("promise 10");
    RepairSender sender = Senders.begun(1, 1, 2);
    for (int number = 0; number < 6; number++) {
      Checks.due("before the join", number, sender.receivers());
      sender.join(LOSES_ALL, 0);
    }
    sender.round();
    Checks.due("dropped", true, sender.isDropped(5));
    Checks.due("dropped ones included", 6, sender.receivers());
    Checks.refused(sender, "no room behind a drop", Checks.STATE, () -> sender.join(0, 0));
  }

  /** Needs 1, 2, 3 and 4 behind falling and rising waits. */
  private static RepairSender withNeeds(int... waits) {
    RepairSender sender = Senders.begun(20, 1, 2, 3, 4);
    for (int receiver = 0; receiver < waits.length; receiver++) {
      sender.join((1 << (receiver + 1)) - 1, waits[receiver]);
    }
    sender.send(4);
    return sender;
  }

  private static void promise11Reports() {
    Checks.part("promise 11");
    RepairSender rising = withNeeds(0, 1, 19, 20);
    Checks.due("before a round", 0, rising.reports());
    Checks.due("sent", 4, rising.round());
    Checks.due("each has a greater need", 4, rising.reports());
    rising.round();
    Checks.due("the complete ones do not report", 4, rising.reports());
    RepairSender falling = withNeeds(20, 19, 1, 0);
    Checks.due("sent", 4, falling.round());
    Checks.due("the first said it all", 1, falling.reports());
    RepairSender alike = withNeeds(6, 6, 6, 6);
    alike.round();
    Checks.due("at once", 4, alike.reports());
    RepairSender mixed = withNeeds(4, 3, 4, 3);
    mixed.round();
    Checks.due("two at 3 and then nothing", 2, mixed.reports());
    mixed.setLosses(0, LOSES_ALL);
    mixed.join(0, 0);
    mixed.round();
    Checks.due("over all rounds", 3, mixed.reports());
    mixed.begin(4, 3);
    Checks.due("anew", 0, mixed.reports());
  }

  private static void promise12KeptBack() {
    Checks.part("promise 12");
    RepairSender rising = withNeeds(0, 1, 19, 20);
    rising.round();
    Checks.due("nobody", 0, rising.keptBack());
    RepairSender falling = withNeeds(20, 19, 1, 0);
    Checks.due("before a round", 0, falling.keptBack());
    falling.round();
    Checks.due("all but one", 3, falling.keptBack());
    falling.round();
    Checks.due("the complete ones keep nothing back", 3, falling.keptBack());
    RepairSender alike = Senders.begun(20, 1, 2);
    alike.join(LOSES_ALL, 5);
    alike.join(LOSES_ALL, 6);
    alike.join(LOSES_ALL, 6);
    alike.round();
    Checks.due("an equal need is enough", 2, alike.keptBack());
    alike.round();
    Checks.due("over all rounds", 4, alike.keptBack());
    alike.begin(2, 3);
    Checks.due("anew", 0, alike.keptBack());
    RepairSender middle = withNeeds(5, 2, 7, 7);
    middle.round();
    Checks.due("a lesser need does not silence", 1, middle.keptBack());
    Checks.due("the others report", 3, middle.reports());
  }

  private static void refusesReceivers(RepairSender sender, ReceiverCall call) {
    for (int wrong : WRONG_INDEXES) {
      Checks.refused(sender, "receiver " + wrong, Checks.INDEX, () -> call.answer(wrong));
    }
    int next = sender.receivers();
    Checks.refused(sender, "receiver " + next, Checks.INDEX, () -> call.answer(next));
    Checks.refused(sender, "receiver 6", Checks.INDEX, () -> call.answer(6));
  }

  private interface ReceiverCall {
    long answer(int receiver);
  }

  private static void promise13Has() {
    Checks.part("promise 13");
    RepairSender sender = Senders.begun(3, 1, 2);
    sender.join(0, 0);
    sender.join(0b101, 0);
    Checks.due("nothing", 0, sender.has(0));
    sender.send(4);
    Checks.due("all", 0b1111, sender.has(0));
    Checks.due("some", 0b1010, sender.has(1));
    sender.send(12);
    Checks.due("16 bits", 0xffff, sender.has(0));
    sender.send(16);
    Checks.due("twice", 0xffff, sender.has(0));
    refusesReceivers(sender, sender::has);
    RepairSender empty = new RepairSender();
    refusesReceivers(empty, empty::has);
  }

  private static void promise14Need() {
    Checks.part("promise 14");
    RepairSender sender = Senders.begun(1, 1, 2, 3);
    sender.join(0, 0);
    sender.join(LOSES_ALL, 0);
    for (int want = 3; want > 0; want--) {
      Checks.due("need", want, sender.need(0));
      sender.send(1);
    }
    Checks.due("complete", 0, sender.need(0));
    sender.send(1);
    Checks.due("never below 0", 0, sender.need(0));
    sender.round();
    Checks.due("dropped", true, sender.isDropped(1));
    Checks.due("that of a dropped one", 3, sender.need(1));
    sender.begin(1, 3);
    sender.join(1 << 0 | 1 << 5, 0);
    sender.send(1);
    Checks.due("lost", 1, sender.need(0));
    refusesReceivers(sender, sender::need);
  }

  private static void promise15IsDropped() {
    Checks.part("promise 15");
    for (int patience = 1; patience <= 20; patience++) {
      RepairSender sender = Senders.begun(patience, 1, 2, 3);
      sender.join(LOSES_ALL, 0);
      sender.join(0, 0);
      for (int round = 1; round <= patience; round++) {
        Checks.due("before round " + round, false, sender.isDropped(0));
        sender.round();
      }
      Checks.due("patience " + patience, true, sender.isDropped(0));
      Checks.due("a complete one stays", false, sender.isDropped(1));
    }
    RepairSender sender = Senders.begun(1, 1);
    sender.join(LOSES_ALL, 0);
    sender.send(16);
    Checks.due("sending alone drops nobody", false, sender.isDropped(0));
    refusesReceivers(sender, receiver -> sender.isDropped(receiver) ? 1 : 0);
  }

  private static void promise16BadRounds() {
    Checks.part("promise 16");
    RepairSender sender = Senders.begun(3, 1, 2, 3);
    sender.join(LOSES_ALL, 0);
    sender.join(0, 20);
    Checks.due("none", 0, sender.badRounds(0));
    sender.round();
    Checks.due("one", 1, sender.badRounds(0));
    Checks.due("completed within the round", 0, sender.badRounds(1));
    sender.send(3);
    Checks.due("not by sending", 1, sender.badRounds(0));
    sender.round();
    sender.setLosses(0, 0);
    sender.round();
    Checks.due("completed in the third", 2, sender.badRounds(0));
    sender.round();
    Checks.due("complete", 2, sender.badRounds(0));
    Checks.due("a late one", 2, sender.join(LOSES_ALL, 3));
    for (int round = 0; round < 5; round++) {
      sender.round();
    }
    Checks.due("no more than the patience", 3, sender.badRounds(2));
    refusesReceivers(sender, sender::badRounds);
  }

  /** Multiplying as polynomials first, and taking the rest by 285 then. */
  private static int productByDivision(int a, int b) {
    int product = 0;
    for (int bit = 0; bit < 8; bit++) {
      product ^= (b >> bit & 1) * (a << bit);
    }
    for (int bit = 14; bit >= 8; bit--) {
      product ^= (product >> bit & 1) * (285 << (bit - 8));
    }
    return product;
  }

  private static void promise17Times() {
    Checks.part("promise 17");
    for (int a = 0; a < 256; a++) {
      RepairSender sender = new RepairSender();
      for (int b = 0; b < 256; b++) {
        Checks.due(a + " times " + b, productByDivision(a, b), sender.times(a, b));
      }
    }
    RepairSender sender = new RepairSender();
    for (int wrong : new int[] {-1, 256, Integer.MIN_VALUE, Integer.MAX_VALUE}) {
      Checks.refused(sender, "a " + wrong, Checks.ARGUMENT, () -> sender.times(wrong, 0));
      Checks.refused(sender, "b " + wrong, Checks.ARGUMENT, () -> sender.times(0, wrong));
    }
  }

  private static void promise17TimesIsThatOfAField() {
    Checks.part("promise 17");
    RepairSender sender = new RepairSender();
    Checks.due("by 0", 0, sender.times(0, 255));
    Checks.due("by 1", 255, sender.times(1, 255));
    Checks.due("the polynomial", 285 - 256, sender.times(2, 128));
    for (int a = 1; a < 256; a++) {
      sender = new RepairSender();
      int inverses = 0;
      for (int b = 1; b < 256; b++) {
        inverses += sender.times(a, b) == 1 ? 1 : 0;
      }
      Checks.due("inverses of " + a, 1, inverses);
    }
  }

  private static void promise18Packet() {
    Checks.part("promise 18");
    RepairSender one = Senders.begun(3, 77);
    RepairSender line = Senders.begun(3, 5, 200);
    for (int packet = 0; packet < 16; packet++) {
      Checks.due("a constant", 77, one.packet(packet));
      // Through (0, 5) and (1, 200) goes 5 + x * (5 + 200), the sum being the exclusive or.
      Checks.due("a line", 5 ^ productByDivision(packet, 5 ^ 200), line.packet(packet));
    }
    for (int k = 1; k <= 8; k++) {
      RepairSender sender = new RepairSender();
      sender.begin(k, 3);
      int[] coefficients = {91, 254, 3, 128, 77, 16, 201, 5};
      for (int place = 0; place < k; place++) {
        sender.setDatum(place, polynomial(coefficients, k, place));
      }
      for (int packet = 0; packet < 16; packet++) {
        int want = polynomial(coefficients, k, packet);
        Checks.due("k " + k + ", packet " + packet, want, sender.packet(packet));
      }
    }
    for (int wrong : new int[] {-1, 16, Integer.MIN_VALUE, Integer.MAX_VALUE}) {
      Checks.refused(line, "packet " + wrong, Checks.INDEX, () -> line.packet(wrong));
    }
    line.setDatum(1, 5);
    Checks.due("a changed datum", 5, line.packet(15));
  }

  private static int polynomial(int[] coefficients, int k, int place) {
    int sum = 0;
    int power = 1;
    for (int degree = 0; degree < k; degree++) {
      sum ^= productByDivision(coefficients[degree], power);
      power = productByDivision(power, place);
    }
    return sum;
  }

  private interface Rebuilding {
    int answer(RepairSender sender, int receiver, int place);
  }

  private static final int[] DATA = {200, 3, 0, 255, 17, 94, 128, 61};

  /** Receivers that join late have only packets beyond the data, and those of every kind. */
  private static void rebuildsAll(Rebuilding way) {
    for (int k = 1; k <= 8; k++) {
      for (int losses = 0; losses < 2047; losses += 31) {
        RepairSender sender = new RepairSender();
        sender.begin(k, 20);
        for (int place = 0; place < k; place++) {
          sender.setDatum(place, DATA[place]);
        }
        sender.join(losses, 0);
        sender.send(16);
        sender.join(losses ^ 2047, 0);
        sender.send(7);
        for (int place = 0; place < k; place++) {
          for (int receiver = 0; receiver < 2; receiver++) {
            if (sender.need(receiver) == 0) {
              int got = way.answer(sender, receiver, place);
              Checks.due("k " + k + ", losses " + losses, DATA[place], got);
            }
          }
        }
      }
    }
  }

  private static void refusesRebuilding(Rebuilding way) {
    RepairSender sender = Senders.begun(1, 1, 2, 3);
    sender.join(0, 0);
    sender.join(LOSES_ALL, 0);
    sender.send(2);
    Checks.refused(sender, "lacking one", Checks.STATE, () -> way.answer(sender, 0, 0));
    sender.send(1);
    Checks.due("complete", 3, way.answer(sender, 0, 2));
    for (int wrong : new int[] {-1, 3}) {
      Checks.refused(sender, "place " + wrong, Checks.INDEX, () -> way.answer(sender, 0, wrong));
      Checks.refused(sender, "lacking, " + wrong, Checks.INDEX, () -> way.answer(sender, 1, wrong));
    }
    Checks.refused(sender, "lacking all", Checks.STATE, () -> way.answer(sender, 1, 0));
    sender.round();
    Checks.due("dropped", true, sender.isDropped(1));
    Checks.refused(sender, "dropped", Checks.STATE, () -> way.answer(sender, 1, 0));
    RepairSender other = Senders.begun(1, 1, 2, 3);
    other.join(0, 0);
    other.send(3);
    refusesReceivers(other, receiver -> way.answer(other, receiver, 0));
  }

  /** Nothing of the block before may stay in the rebuilding of the next. */
  private static void rebuildsBlockBehindBlock(Rebuilding way) {
    RepairSender sender = new RepairSender();
    for (int block = 0; block < 16; block++) {
      int k = block % 2 == 0 ? 8 : 1 + block / 2;
      sender.begin(k, 3);
      for (int place = 0; place < k; place++) {
        sender.setDatum(place, DATA[place] ^ block);
      }
      sender.join(0, 0);
      sender.send(16);
      for (int place = 0; place < k; place++) {
        Checks.due("block " + block, DATA[place] ^ block, way.answer(sender, 0, place));
      }
    }
  }

  private static void promise19Rebuilt() {
    Checks.part("promise 19");
    rebuildsAll(RepairSender::rebuilt);
    rebuildsBlockBehindBlock(RepairSender::rebuilt);
    refusesRebuilding(RepairSender::rebuilt);
  }

  private static void promise20RebuiltByElimination() {
    Checks.part("promise 20");
    rebuildsAll(RepairSender::rebuiltByElimination);
    rebuildsBlockBehindBlock(RepairSender::rebuiltByElimination);
    refusesRebuilding(RepairSender::rebuiltByElimination);
  }
}
