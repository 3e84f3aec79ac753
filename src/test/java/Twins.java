/**
 * "A call that throws an exception changes nothing": two objects are made alike, one of them has
 * the refused call, and both then answer the same to all that can be asked and done. Each of them
 * stays below the 512 calls that the document promises anything about.
 */
final class Twins {
  interface Maker {
    RepairSender make();
  }

  interface Call {
    long answer(RepairSender sender);
  }

  private static final int ROUNDS = 21;

  private Twins() {}

  static void refused(String what, Class<? extends Exception> want, Maker maker, Call call) {
    RepairSender called = maker.make();
    String thrown = outcome(called, call);
    Checks.same(what, want.getSimpleName(), thrown);
    Checks.same(what + ", and then", life(maker.make()), life(called));
  }

  /** The answer, or the name of the exception that is thrown. */
  static String outcome(RepairSender sender, Call call) {
    try {
      return "" + call.answer(sender);
    } catch (RuntimeException e) {
      return e.getClass().getSimpleName();
    }
  }

  /** What is seen of an object, and of its losses, waits, data and patience by using it further. */
  private static String life(RepairSender sender) {
    StringBuilder all = new StringBuilder(Checks.picture(sender));
    for (int receiver = 0; receiver < sender.receivers(); receiver++) {
      int losses = sender.setLosses(receiver, 0);
      int wait = sender.setWait(receiver, 0);
      sender.setLosses(receiver, losses);
      sender.setWait(receiver, wait);
      all.append(" | losses ").append(losses).append(" wait ").append(wait);
    }
    all.append(" | datum ").append(outcome(sender, s -> s.setDatum(0, 1)));
    all.append(" | place 7 ").append(outcome(sender, s -> s.setDatum(7, 1)));
    all.append(" | joined ").append(outcome(sender, s -> s.join(2047, 20)));
    all.append(" | sent ").append(sender.send(1));
    int receivers = sender.receivers();
    for (int round = 0; round < ROUNDS; round++) {
      all.append(" | round ").append(sender.round());
      for (int receiver = 0; receiver < receivers; receiver++) {
        all.append(' ').append(sender.isDropped(receiver));
      }
    }
    all.append(" | ").append(Checks.picture(sender));
    all.append(" | ended ").append(sender.begin(1, 1));
    return all.toString();
  }
}
