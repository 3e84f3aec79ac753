/** Objects in states that several tests begin with. */
final class Senders {
  static final int LOSES_ALL = 2047;

  private Senders() {}

  /** A block of these data, without receivers. */
  static RepairSender begun(int patience, int... data) {
    RepairSender sender = new RepairSender();
    sender.begin(data.length, patience);
    for (int place = 0; place < data.length; place++) {
      sender.setDatum(place, data[place]);
    }
    return sender;
  }

  /** A block of 8 data, 8 packets sent, and a receiver for each need; they lose no more. */
  static RepairSender needing(int patience, int[] needs, int[] waits) {
    RepairSender sender = new RepairSender();
    sender.begin(8, patience);
    for (int receiver = 0; receiver < needs.length; receiver++) {
      sender.join((1 << needs[receiver]) - 1, waits[receiver]);
    }
    sender.send(8);
    for (int receiver = 0; receiver < needs.length; receiver++) {
      sender.setLosses(receiver, 0);
    }
    return sender;
  }

  /** The same, but from now on every receiver loses all that is sent. */
  static RepairSender needingForEver(int patience, int[] needs, int[] waits) {
    RepairSender sender = needing(patience, needs, waits);
    for (int receiver = 0; receiver < needs.length; receiver++) {
      sender.setLosses(receiver, LOSES_ALL);
    }
    return sender;
  }

  /** Sends so many packets, with as few calls as can be. */
  static void sendInAll(RepairSender sender, int packets) {
    for (int left = packets; left > 0; left -= 16) {
      sender.send(Math.min(left, 16));
    }
  }
}
