/** The edges of each promise's numbers, what it refuses, and which exception goes first. */
public final class EdgeTest {
  private static final int LOSES_ALL = Senders.LOSES_ALL;
  private static final int LOW = Integer.MIN_VALUE;
  private static final int HIGH = Integer.MAX_VALUE;
  private static final int[] WRONG_LOSSES = {-1, 2048, 4095, LOW, HIGH};
  private static final int[] WRONG_WAITS = {-1, 21, 31, LOW, HIGH};
  private static final int[] WRONG_VALUES = {-1, 256, 511, LOW, HIGH};

  private EdgeTest() {}

  public static void main(String[] args) {
    newObject();
    beginTakesAllOfItsRange();
    beginBeginsAnew();
    beginReturnsWhatWasSent();
    beginRefuses();
    setDatumTakesAllValues();
    setDatumOnlyBeforeSending();
    setDatumRefuses();
    joinTakesAllLossesAndWaits();
    joinRefuses();
    setLossesTakesAllOfItsRange();
    setLossesFromNowOn();
    setLossesRefuses();
    setWaitTakesAllOfItsRange();
    setWaitRefuses();
    sendTakes1To16();
    sendCountsLiveCompleteOnes();
    sendRefuses();
    roundWithNobodyToServe();
    countsBeginAnewOnlyWithBegin();
    askingChangesNothing();
    timesAndPacketRefuseInAnyState();
    rebuildingAtItsEdges();
    rebuildingRefuses();
    refusesReceiversThatAreNotThere();
    Checks.end();
  }

  // ---- states to be refused in

  /** 3 data and 2 receivers, and nothing is sent. */
  private static RepairSender unsent() {
    RepairSender sender = Senders.begun(2, 7, 8, 9);
    sender.join(LOSES_ALL, 3);
    sender.join(0b101, 20);
    return sender;
  }

  /** The same, where one receiver is complete and one has a bad round. */
  private static RepairSender running() {
    RepairSender sender = unsent();
    sender.send(5);
    sender.round();
    return sender;
  }

  /** Six receivers, of each kind: dropped, complete and lacking. */
  private static RepairSender full() {
    RepairSender sender = running();
    sender.round();
    for (int number = 2; number < 6; number++) {
      sender.join(number < 4 ? 1 << number : LOSES_ALL, number);
    }
    sender.send(2);
    return sender;
  }

  private static RepairSender allDropped() {
    RepairSender sender = Senders.begun(1, 7, 8, 9);
    sender.join(LOSES_ALL, 0);
    sender.join(LOSES_ALL, 20);
    sender.round();
    return sender;
  }

  private static final Twins.Maker[] STATES = {
    RepairSender::new, EdgeTest::unsent, EdgeTest::running, EdgeTest::full, EdgeTest::allDropped
  };

  private static void refusedInAll(String what, Class<? extends Exception> want, Twins.Call call) {
    for (int state = 0; state < STATES.length; state++) {
      Twins.refused(what + " in state " + state, want, STATES[state], call);
    }
  }

  // ---- the block

  private static void newObject() {
    Checks.part("promise 1");
    RepairSender sender = new RepairSender();
    for (int place = 0; place < 4; place++) {
      Checks.due("datum " + place, 0, sender.setDatum(place, 0));
    }
    Twins.refused("place 4", Checks.INDEX, RepairSender::new, s -> s.setDatum(4, 0));
    Checks.due("nobody lacks anything", 0, sender.round());
    Checks.due("nobody is complete", 0, sender.send(1));
    Checks.due("sent", 1, sender.sent());
    Checks.due("nothing was sent before begin", 0, new RepairSender().begin(8, 20));
  }

  private static void beginTakesAllOfItsRange() {
    Checks.part("promise 2");
    for (int k = 1; k <= 8; k++) {
      for (int patience = 1; patience <= 20; patience++) {
        RepairSender sender = new RepairSender();
        int behind = k;
        Checks.due("begin " + k + ", " + patience, 0, sender.begin(k, patience));
        Checks.due("the last place", 0, sender.setDatum(k - 1, 1));
        Checks.refused(sender, "the place behind", Checks.INDEX, () -> sender.setDatum(behind, 1));
        sender.join(LOSES_ALL, 0);
        for (int round = 1; round <= patience; round++) {
          Checks.due("live before round " + round, false, sender.isDropped(0));
          Checks.due("sent in it", k, sender.round());
        }
        Checks.due("dropped", true, sender.isDropped(0));
      }
    }
  }

  private static void beginBeginsAnew() {
    Checks.part("promise 2");
    for (int k = 1; k <= 8; k++) {
      RepairSender sender = Senders.begun(1, 1, 2, 3, 4, 5, 6, 7, 8);
      for (int receiver = 0; receiver < 6; receiver++) {
        sender.join(receiver < 3 ? 0 : LOSES_ALL, receiver);
      }
      sender.send(16);
      sender.round();
      sender.begin(k, 20);
      Checks.due("sent", 0, sender.sent());
      Checks.due("receivers", 0, sender.receivers());
      Checks.due("reports", 0, sender.reports());
      Checks.due("kept back", 0, sender.keptBack());
      for (int packet = 0; packet < 16; packet++) {
        Checks.due("all data are 0, packet " + packet, 0, sender.packet(packet));
      }
      for (int place = 0; place < k; place++) {
        Checks.due("datum " + place, 0, sender.setDatum(place, 0));
      }
      for (int receiver = 0; receiver < 6; receiver++) {
        Checks.due("joins again", receiver, sender.join(0, 0));
        Checks.due("without packets", 0, sender.has(receiver));
        Checks.due("with a full need", k, sender.need(receiver));
        Checks.due("without bad rounds", 0, sender.badRounds(receiver));
        Checks.due("live", false, sender.isDropped(receiver));
      }
    }
  }

  private static void beginReturnsWhatWasSent() {
    Checks.part("promise 2");
    RepairSender sender = new RepairSender();
    for (int many = 1; many <= 16; many++) {
      sender.send(many);
      sender.join(LOSES_ALL, 0);
      int repairs = sender.round();
      Checks.due("those of rounds too", many + repairs, sender.begin(1 + many % 8, 3));
      Checks.due("nothing since", 0, sender.begin(1 + many % 8, 3));
    }
  }

  private static void beginRefuses() {
    Checks.part("promise 2");
    for (int wrong : new int[] {0, -1, 9, 16, LOW, HIGH}) {
      refusedInAll("k " + wrong, Checks.ARGUMENT, s -> s.begin(wrong, 3));
      refusedInAll("k, patience " + wrong, Checks.ARGUMENT, s -> s.begin(wrong, 0));
    }
    for (int wrong : new int[] {0, -1, 21, 32, LOW, HIGH}) {
      refusedInAll("patience " + wrong, Checks.ARGUMENT, s -> s.begin(3, wrong));
    }
  }

  private static void setDatumTakesAllValues() {
    Checks.part("promise 3");
    for (int place = 0; place < 8; place++) {
      RepairSender sender = new RepairSender();
      sender.begin(8, 3);
      int before = 0;
      for (int value = 255; value >= 0; value--) {
        Checks.due("before " + value, before, sender.setDatum(place, value));
        before = value;
      }
      for (int value : new int[] {1, 127, 128, 254, 255, 0}) {
        sender.setDatum(place, value);
        Checks.due("its packet", value, sender.packet(place));
      }
    }
  }

  private static void setDatumOnlyBeforeSending() {
    Checks.part("promise 3");
    RepairSender sender = new RepairSender();
    sender.join(LOSES_ALL, 0);
    sender.setDatum(0, 5);
    Checks.due("a round that sends", 4, sender.round());
    Checks.refused(sender, "sent in a round", Checks.STATE, () -> sender.setDatum(0, 6));
    sender.begin(4, 3);
    Checks.due("a new block", 0, sender.setDatum(0, 6));
    sender.send(1);
    Checks.refused(sender, "sent to nobody", Checks.STATE, () -> sender.setDatum(0, 6));
    sender.begin(1, 3);
    Checks.due("a round that sends nothing", 0, sender.round());
    Checks.due("is no hindrance", 0, sender.setDatum(0, 7));
  }

  private static void setDatumRefuses() {
    Checks.part("promise 3");
    for (int wrong : new int[] {-1, 4, 8, LOW, HIGH}) {
      refusedInAll("place " + wrong, Checks.INDEX, s -> s.setDatum(wrong, 0));
      refusedInAll("place first " + wrong, Checks.INDEX, s -> s.setDatum(wrong, 256));
    }
    Twins.refused("place k", Checks.INDEX, EdgeTest::unsent, s -> s.setDatum(3, 0));
    Twins.refused("place, sent", Checks.INDEX, EdgeTest::running, s -> s.setDatum(3, 0));
    Twins.refused("all three", Checks.INDEX, EdgeTest::running, s -> s.setDatum(3, 256));
    for (int wrong : WRONG_VALUES) {
      refusedInAll("value " + wrong, Checks.ARGUMENT, s -> s.setDatum(0, wrong));
    }
    Twins.refused("sent", Checks.STATE, EdgeTest::running, s -> s.setDatum(0, 255));
    Twins.refused("the same datum", Checks.STATE, EdgeTest::running, s -> s.setDatum(2, 9));
    Twins.refused("sent in a round", Checks.STATE, EdgeTest::allDropped, s -> s.setDatum(0, 0));
  }

  // ---- receivers

  private static void joinTakesAllLossesAndWaits() {
    Checks.part("promise 4");
    for (int first = 0; first <= 2047; first += 6) {
      RepairSender sender = new RepairSender();
      for (int losses = first; losses < first + 6 && losses <= 2047; losses++) {
        int wait = losses % 21;
        int number = sender.join(losses, wait);
        Checks.due("the number", losses - first, number);
        Checks.due("losses " + losses, losses, sender.setLosses(number, losses));
        Checks.due("wait " + wait, wait, sender.setWait(number, wait));
      }
      sender.send(11);
      for (int number = 0; number < sender.receivers(); number++) {
        Checks.due("gets all others", 2047 - first - number, sender.has(number));
      }
    }
  }

  private static void joinRefuses() {
    Checks.part("promise 4");
    for (int wrong : WRONG_LOSSES) {
      refusedInAll("losses " + wrong, Checks.ARGUMENT, s -> s.join(wrong, 0));
      refusedInAll("losses, wait " + wrong, Checks.ARGUMENT, s -> s.join(wrong, -1));
    }
    for (int wrong : WRONG_WAITS) {
      refusedInAll("wait " + wrong, Checks.ARGUMENT, s -> s.join(0, wrong));
    }
    Twins.refused("a seventh", Checks.STATE, EdgeTest::full, s -> s.join(0, 0));
    Twins.refused("a seventh of 2047, 20", Checks.STATE, EdgeTest::full, s -> s.join(2047, 20));
  }

  private static void setLossesTakesAllOfItsRange() {
    Checks.part("promise 5");
    for (int first = 0; first <= 2047; first += 256) {
      RepairSender sender = new RepairSender();
      sender.join(0, 0);
      sender.join(1234, 0);
      int before = 0;
      for (int losses = first; losses < first + 256; losses++) {
        Checks.due("before " + losses, before, sender.setLosses(0, losses));
        before = losses;
      }
      Checks.due("the other's stayed", 1234, sender.setLosses(1, 0));
      sender.send(11);
      Checks.due("the losses now", 2047 - before, sender.has(0));
    }
  }

  private static void setLossesFromNowOn() {
    Checks.part("promise 5");
    RepairSender sender = new RepairSender();
    sender.join(LOSES_ALL, 0);
    sender.send(2);
    sender.setLosses(0, 0);
    Checks.due("what was lost stays lost", 0, sender.has(0));
    sender.send(2);
    sender.setLosses(0, LOSES_ALL);
    Checks.due("what was got stays", 0b1100, sender.has(0));
    sender.send(2);
    Checks.due("the numbers went on", 0b1100, sender.has(0));
    Checks.due("its wait stayed", 0, sender.setWait(0, 0));
  }

  private static void setLossesRefuses() {
    Checks.part("promise 5");
    for (int wrong : WRONG_LOSSES) {
      Twins.refused("to " + wrong, Checks.ARGUMENT, EdgeTest::unsent, s -> s.setLosses(1, wrong));
      Twins.refused("full, " + wrong, Checks.ARGUMENT, EdgeTest::full, s -> s.setLosses(5, wrong));
      Twins.refused(
          "dropped, " + wrong, Checks.ARGUMENT, EdgeTest::allDropped, s -> s.setLosses(0, wrong));
      refusedInAll("no receiver, " + wrong, Checks.INDEX, s -> s.setLosses(6, wrong));
    }
  }

  private static void setWaitTakesAllOfItsRange() {
    Checks.part("promise 6");
    RepairSender sender = new RepairSender();
    sender.join(77, 20);
    sender.join(LOSES_ALL, 13);
    int before = 20;
    for (int wait = 0; wait <= 20; wait++) {
      Checks.due("before " + wait, before, sender.setWait(0, wait));
      Checks.due("the same again", wait, sender.setWait(0, wait));
      before = wait;
    }
    Checks.due("the other's stayed", 13, sender.setWait(1, 0));
    Checks.due("the losses stayed", 77, sender.setLosses(0, 0));
  }

  private static void setWaitRefuses() {
    Checks.part("promise 6");
    for (int wrong : WRONG_WAITS) {
      Twins.refused("to " + wrong, Checks.ARGUMENT, EdgeTest::unsent, s -> s.setWait(1, wrong));
      Twins.refused("full, " + wrong, Checks.ARGUMENT, EdgeTest::full, s -> s.setWait(5, wrong));
      Twins.refused(
          "dropped, " + wrong, Checks.ARGUMENT, EdgeTest::allDropped, s -> s.setWait(0, wrong));
      refusedInAll("no receiver, " + wrong, Checks.INDEX, s -> s.setWait(6, wrong));
    }
  }

  // ---- sending

  private static void sendTakes1To16() {
    Checks.part("promise 7");
    for (int k = 1; k <= 8; k++) {
      for (int many = 1; many <= 16; many++) {
        RepairSender sender = new RepairSender();
        sender.begin(k, 3);
        sender.join(0, 0);
        Checks.due("complete with " + many + " of " + k, many >= k ? 1 : 0, sender.send(many));
        Checks.due("has", (1 << many) - 1, sender.has(0));
        Checks.due("sent", many, sender.sent());
      }
    }
  }

  private static void sendCountsLiveCompleteOnes() {
    Checks.part("promise 7");
    Checks.due("no receivers", 0, new RepairSender().send(16));
    RepairSender sender = new RepairSender();
    sender.begin(2, 1);
    for (int receiver = 0; receiver < 6; receiver++) {
      sender.join(LOSES_ALL, 0);
    }
    for (int receiver = 0; receiver < 6; receiver++) {
      Checks.due("complete before " + receiver, receiver, sender.send(1));
      sender.setLosses(receiver, 0);
      Checks.due("and with it", receiver + 1, sender.send(2));
    }
    Checks.due("all", 6, sender.send(1));
    Checks.due("all dropped: none", 0, allDropped().send(16));
    RepairSender some = Senders.needingForEver(1, new int[] {0, 8, 0, 1}, new int[] {0, 0, 0, 0});
    Checks.due("two are complete", 2, some.send(1));
    some.round();
    Checks.due("two are dropped", 2, some.send(16));
  }

  private static void sendRefuses() {
    Checks.part("promise 7");
    for (int wrong : new int[] {0, -1, 17, 32, LOW, HIGH}) {
      refusedInAll("many " + wrong, Checks.ARGUMENT, s -> s.send(wrong));
    }
  }

  private static void roundWithNobodyToServe() {
    Checks.part("promise 8");
    RepairSender nobody = new RepairSender();
    nobody.send(3);
    idles("no receivers", nobody);
    RepairSender complete = Senders.begun(1, 1, 2);
    for (int receiver = 0; receiver < 6; receiver++) {
      complete.join(0, receiver);
    }
    complete.send(2);
    idles("all complete", complete);
    idles("all dropped", allDropped());
    RepairSender mixed = Senders.needingForEver(1, new int[] {0, 3, 0, 3}, new int[] {0, 0, 1, 1});
    mixed.round();
    idles("all dropped or complete", mixed);
  }

  private static void idles(String what, RepairSender sender) {
    String before = Checks.picture(sender);
    Checks.due(what, 0, sender.round());
    Checks.due(what + ", once more", 0, sender.round());
    Checks.same(what, before, Checks.picture(sender));
  }

  // ---- what there is

  private static void countsBeginAnewOnlyWithBegin() {
    Checks.part("promises 9 to 12");
    RepairSender sender = Senders.needingForEver(20, new int[] {8, 8, 8}, new int[] {0, 1, 1});
    for (int round = 1; round <= 20; round++) {
      Checks.due("sent in round " + round, 8, sender.round());
      Checks.due("sent", 8 + 8 * round, sender.sent());
      Checks.due("receivers", 3, sender.receivers());
      Checks.due("reports", round, sender.reports());
      Checks.due("kept back", 2 * round, sender.keptBack());
    }
    Checks.due("all are dropped", 0, sender.round());
    Checks.due("receivers, dropped ones included", 3, sender.receivers());
    Checks.due("reports stay", 20, sender.reports());
    Checks.due("those kept back stay", 40, sender.keptBack());
    Checks.due("sent stays", 168, sender.sent());
  }

  private static void askingChangesNothing() {
    Checks.part("nothing from here on changes anything");
    for (int state = 0; state < STATES.length; state++) {
      RepairSender sender = STATES[state].make();
      String before = Checks.picture(sender);
      for (int receiver = 0; receiver < sender.receivers(); receiver++) {
        int asked = receiver;
        Twins.outcome(sender, s -> s.rebuilt(asked, 0));
        Twins.outcome(sender, s -> s.rebuiltByElimination(asked, 0));
      }
      sender.times(255, 255);
      Checks.same("state " + state, before, Checks.picture(sender));
    }
  }

  private static void timesAndPacketRefuseInAnyState() {
    Checks.part("promises 17 and 18");
    for (int wrong : WRONG_VALUES) {
      refusedInAll("a " + wrong, Checks.ARGUMENT, s -> s.times(wrong, 255));
      refusedInAll("b " + wrong, Checks.ARGUMENT, s -> s.times(255, wrong));
      refusedInAll("a and b " + wrong, Checks.ARGUMENT, s -> s.times(wrong, wrong));
    }
    for (int wrong : new int[] {-1, 16, 31, LOW, HIGH}) {
      refusedInAll("packet " + wrong, Checks.INDEX, s -> s.packet(wrong));
    }
  }

  // ---- rebuilding

  private interface Rebuilding {
    int answer(RepairSender sender, int receiver, int place);
  }

  private static final Rebuilding[] WAYS = {
    RepairSender::rebuilt, RepairSender::rebuiltByElimination
  };

  /** The lowest, the highest and too many packets; data of all 0, of all 255, of one that is 1. */
  private static void rebuildingAtItsEdges() {
    Checks.part("promises 19 and 20");
    for (int k = 1; k <= 8; k++) {
      for (int kind = 0; kind < 3; kind++) {
        RepairSender sender = new RepairSender();
        sender.begin(k, 3);
        int[] data = new int[k];
        for (int place = 0; place < k; place++) {
          data[place] = kind == 0 ? 0 : kind == 1 ? 255 : place == k - 1 ? 1 : 0;
          sender.setDatum(place, data[place]);
        }
        sender.join(0, 0);
        sender.send(k);
        rebuildsAll(sender, "the data themselves", data);
        sender.send(16 - k);
        rebuildsAll(sender, "all packets", data);
        sender.setLosses(0, LOSES_ALL);
        sender.send(16 - k);
        sender.join(0, 0);
        sender.send(k);
        rebuildsAll(sender, "the highest packets", data);
      }
    }
  }

  /** From the receiver that joined latest. */
  private static void rebuildsAll(RepairSender sender, String what, int[] data) {
    int receiver = sender.receivers() - 1;
    for (Rebuilding way : WAYS) {
      for (int place = 0; place < data.length; place++) {
        String asked = what + ", place " + place + " of " + data.length;
        Checks.due(asked, data[place], way.answer(sender, receiver, place));
      }
    }
  }

  private static void rebuildingRefuses() {
    Checks.part("promises 19 and 20");
    for (Rebuilding way : WAYS) {
      for (int wrong : new int[] {-1, 3, 8, LOW, HIGH}) {
        for (int receiver = 0; receiver < 6; receiver++) {
          int asked = receiver;
          Twins.refused(
              "place " + wrong, Checks.INDEX, EdgeTest::full, s -> way.answer(s, asked, wrong));
        }
      }
      Twins.refused("dropped", Checks.STATE, EdgeTest::full, s -> way.answer(s, 0, 0));
      Twins.refused("dropped, the last place", Checks.STATE, EdgeTest::full, s -> way.answer(s, 0, 2));
      Twins.refused("without packets", Checks.STATE, EdgeTest::unsent, s -> way.answer(s, 0, 0));
      Twins.refused("lacking", Checks.STATE, EdgeTest::full, s -> way.answer(s, 5, 0));
      Checks.due("complete", 7, way.answer(full(), 1, 0));
      Checks.due("complete, the last place", 9, way.answer(full(), 1, 2));
    }
  }

  private static void refusesReceiversThatAreNotThere() {
    Checks.part("a method that takes a receiver");
    Twins.Maker[] makers = {
      RepairSender::new, EdgeTest::unsent, EdgeTest::full, EdgeTest::begunBehindFull
    };
    int[] receivers = {0, 2, 6, 0};
    for (int state = 0; state < makers.length; state++) {
      for (int wrong : new int[] {receivers[state], -1, 6, 7, LOW, HIGH}) {
        refusesReceiver(makers[state], wrong);
      }
    }
  }

  private static RepairSender begunBehindFull() {
    RepairSender sender = full();
    sender.begin(3, 3);
    return sender;
  }

  private static void refusesReceiver(Twins.Maker maker, int wrong) {
    String what = "receiver " + wrong + " of ";
    Twins.refused(what + "setLosses", Checks.INDEX, maker, s -> s.setLosses(wrong, 0));
    Twins.refused(what + "setLosses, first", Checks.INDEX, maker, s -> s.setLosses(wrong, -1));
    Twins.refused(what + "setWait", Checks.INDEX, maker, s -> s.setWait(wrong, 0));
    Twins.refused(what + "setWait, first", Checks.INDEX, maker, s -> s.setWait(wrong, -1));
    Twins.refused(what + "has", Checks.INDEX, maker, s -> s.has(wrong));
    Twins.refused(what + "need", Checks.INDEX, maker, s -> s.need(wrong));
    Twins.refused(what + "isDropped", Checks.INDEX, maker, s -> s.isDropped(wrong) ? 1 : 0);
    Twins.refused(what + "badRounds", Checks.INDEX, maker, s -> s.badRounds(wrong));
    for (Rebuilding way : WAYS) {
      Twins.refused(what + "rebuilding", Checks.INDEX, maker, s -> way.answer(s, wrong, 0));
      Twins.refused(what + "both wrong", Checks.INDEX, maker, s -> way.answer(s, wrong, -1));
    }
  }
}
