/** What the tests have in common: it counts and prints the answers that are not as due. */
final class Checks {
  interface Call {
    long answer();
  }

  static final Class<? extends Exception> INDEX = IndexOutOfBoundsException.class;
  static final Class<? extends Exception> ARGUMENT = IllegalArgumentException.class;
  static final Class<? extends Exception> STATE = IllegalStateException.class;

  private static int wrong = 0;
  private static int checked = 0;
  private static String part = "";

  private Checks() {}

  static void part(String name) {
    part = name;
  }

  static void due(String what, long want, long got) {
    checked++;
    if (got != want) {
      wrong++;
      System.out.println(part + ": " + what + " answered " + got + ", due is " + want);
    }
  }

  static void due(String what, boolean want, boolean got) {
    due(what, want ? 1 : 0, got ? 1 : 0);
  }

  static void same(String what, String want, String got) {
    checked++;
    if (!got.equals(want)) {
      wrong++;
      System.out.println(part + ": " + what + " answered " + got + ", due is " + want);
    }
  }

  /** The call must throw exactly this class, and the object must look the same behind it. */
  static void refused(
      RepairSender sender, String what, Class<? extends Exception> want, Call call) {
    String before = picture(sender);
    checked++;
    String got = "the answer ";
    Class<?> thrown = null;
    try {
      got += call.answer();
    } catch (RuntimeException e) {
      thrown = e.getClass();
      got = thrown.getName();
    }
    if (thrown != want) {
      wrong++;
      System.out.println(part + ": " + what + " gave " + got + ", due is " + want.getName());
    }
    checked++;
    if (!before.equals(picture(sender))) {
      wrong++;
      System.out.println(part + ": " + what + " was refused and changed something");
    }
  }

  /** All that can be asked of an object without changing it. */
  static String picture(RepairSender sender) {
    StringBuilder all = new StringBuilder();
    all.append(sender.sent()).append(' ').append(sender.receivers()).append(' ');
    all.append(sender.reports()).append(' ').append(sender.keptBack()).append(" |");
    for (int packet = 0; packet < 16; packet++) {
      all.append(' ').append(sender.packet(packet));
    }
    int receivers = sender.receivers();
    for (int receiver = 0; receiver < receivers; receiver++) {
      all.append(" | ").append(sender.has(receiver)).append(' ').append(sender.need(receiver));
      all.append(' ').append(sender.isDropped(receiver));
      all.append(' ').append(sender.badRounds(receiver));
    }
    return all.toString();
  }

  static void end() {
    System.out.println(checked + " answers checked, " + wrong + " not as due");
    if (wrong != 0 || checked == 0) {
      System.exit(1);
    }
  }
}
