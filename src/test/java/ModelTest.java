import java.util.ArrayList;
import java.util.List;
import java.util.TreeSet;

/**
 * Long runs of calls, right ones and wrong ones, held against a second sender that is written
 * after the document's words with other means: sets, lists of reports, logarithms.
 */
public final class ModelTest {
  private static final int RUNS = 400;
  private static final int CALLS = 512;

  private long state;

  private ModelTest(long seed) {
    state = seed;
  }

  public static void main(String[] args) {
    for (int run = 1; run <= RUNS; run++) {
      Checks.part("run " + run);
      new ModelTest(run * 7919L).run();
    }
    Checks.end();
  }

  /** A number from low to high, the same ones each time the test runs. */
  private int pick(int low, int high) {
    state = state * 6364136223846793005L + 1442695040888963407L;
    return low + (int) ((state >>> 33) % (high - low + 1));
  }

  /** Mostly a number in the range, now and then one beside it. */
  private int nearly(int low, int high) {
    return pick(0, 19) == 0 ? (pick(0, 1) == 0 ? low - 1 : high + 1) : pick(low, high);
  }

  private int pickLosses() {
    int kind = pick(0, 9);
    return kind == 0 ? 2047 : kind == 1 ? 0 : kind == 2 ? nearly(0, 2047) : pick(0, 2047) | pick(0, 2047);
  }

  private void run() {
    RepairSender sender = new RepairSender();
    Model model = new Model();
    for (int call = 0; call < CALLS; call++) {
      int kind = pick(0, 39);
      int a = firstArgument(kind, model);
      int b = secondArgument(kind, model);
      String want = model.answer(kind, a, b);
      String got = answer(sender, kind, a, b);
      boolean same = want.equals(got);
      Checks.due("call " + call + ", " + Model.name(kind) + "(" + a + ", " + b + ") " + got
          + " for " + want, true, same);
      if (!same) {
        return;
      }
    }
  }

  private int firstArgument(int kind, Model model) {
    switch (Model.name(kind)) {
      case "begin": return nearly(1, 8);
      case "setDatum": return nearly(0, model.k - 1);
      case "join": return pickLosses();
      case "send": return pick(0, 3) == 0 ? nearly(1, 16) : pick(1, 3);
      case "times": return nearly(0, 255);
      case "packet": return nearly(0, 15);
      default: return nearly(0, Math.max(0, model.all.size() - 1));
    }
  }

  private int secondArgument(int kind, Model model) {
    switch (Model.name(kind)) {
      case "begin": return pick(0, 2) == 0 ? nearly(1, 20) : pick(1, 4);
      case "setDatum": case "times": return nearly(0, 255);
      case "setLosses": return pickLosses();
      case "join": case "setWait": return pick(0, 2) == 0 ? nearly(0, 20) : pick(0, 3);
      default: return nearly(0, model.k - 1);
    }
  }

  private static String answer(RepairSender sender, int kind, int a, int b) {
    try {
      switch (Model.name(kind)) {
        case "begin": return "" + sender.begin(a, b);
        case "setDatum": return "" + sender.setDatum(a, b);
        case "join": return "" + sender.join(a, b);
        case "setLosses": return "" + sender.setLosses(a, b);
        case "setWait": return "" + sender.setWait(a, b);
        case "send": return "" + sender.send(a);
        case "round": return "" + sender.round();
        case "sent": return "" + sender.sent();
        case "receivers": return "" + sender.receivers();
        case "reports": return "" + sender.reports();
        case "keptBack": return "" + sender.keptBack();
        case "has": return "" + sender.has(a);
        case "need": return "" + sender.need(a);
        case "isDropped": return "" + sender.isDropped(a);
        case "badRounds": return "" + sender.badRounds(a);
        case "times": return "" + sender.times(a, b);
        case "packet": return "" + sender.packet(a);
        case "rebuilt": return "" + sender.rebuilt(a, b);
        default: return "" + sender.rebuiltByElimination(a, b);
      }
    } catch (RuntimeException e) {
      return e.getClass().getSimpleName();
    }
  }

  private static final class Listener {
    int losses;
    int wait;
    int bad;
    boolean live = true;
    final TreeSet<Integer> packets = new TreeSet<>();
  }

  private static final class Report {
    final int wait;
    final int need;

    Report(int wait, int need) {
      this.wait = wait;
      this.need = need;
    }
  }

  private static final class Model {
    private static final String INDEX = "IndexOutOfBoundsException";
    private static final String ARGUMENT = "IllegalArgumentException";
    private static final String STATE = "IllegalStateException";
    private static final String[] NAMES = {
      "setDatum", "setDatum", "setDatum", "join", "join", "join", "setLosses", "setWait",
      "setWait", "send", "send", "round", "round", "round", "round", "round", "round", "sent",
      "receivers", "reports", "reports", "keptBack", "keptBack", "has", "has", "has", "need",
      "isDropped", "badRounds", "times", "packet", "packet", "rebuilt", "rebuilt", "rebuilt",
      "rebuiltByElimination", "rebuiltByElimination", "rebuiltByElimination", "begin", "need"
    };
    private static final int[] POWERS = new int[510];
    private static final int[] LOGARITHMS = new int[256];

    static {
      int power = 1;
      for (int i = 0; i < 255; i++) {
        POWERS[i] = power;
        POWERS[i + 255] = power;
        LOGARITHMS[power] = i;
        power = (power << 1) ^ (power >= 128 ? 285 : 0);
      }
    }

    int k = 4;
    int patience = 3;
    int sent;
    int reports;
    int keptBack;
    int[] data = new int[4];
    List<Listener> all = new ArrayList<>();

    static String name(int kind) {
      return NAMES[kind];
    }

    static int product(int a, int b) {
      return a == 0 || b == 0 ? 0 : POWERS[LOGARITHMS[a] + LOGARITHMS[b]];
    }

    static int quotient(int a, int b) {
      return a == 0 ? 0 : POWERS[LOGARITHMS[a] + 255 - LOGARITHMS[b]];
    }

    static boolean outside(int number, int low, int high) {
      return number < low || number > high;
    }

    String answer(int kind, int a, int b) {
      switch (NAMES[kind]) {
        case "begin": return begin(a, b);
        case "setDatum": return setDatum(a, b);
        case "join": return join(a, b);
        case "send": return send(a);
        case "round": return "" + round();
        case "sent": return "" + sent;
        case "receivers": return "" + all.size();
        case "reports": return "" + reports;
        case "keptBack": return "" + keptBack;
        case "times": return outside(a, 0, 255) || outside(b, 0, 255) ? ARGUMENT : "" + product(a, b);
        case "packet": return outside(a, 0, 15) ? INDEX : "" + value(a);
        default: return outside(a, 0, all.size() - 1) ? INDEX : ofReceiver(kind, all.get(a), b);
      }
    }

    String ofReceiver(int kind, Listener listener, int b) {
      int before;
      switch (NAMES[kind]) {
        case "setLosses":
          before = listener.losses;
          listener.losses = outside(b, 0, 2047) ? before : b;
          return outside(b, 0, 2047) ? ARGUMENT : "" + before;
        case "setWait":
          before = listener.wait;
          listener.wait = outside(b, 0, 20) ? before : b;
          return outside(b, 0, 20) ? ARGUMENT : "" + before;
        case "has":
          int bits = 0;
          for (int packet : listener.packets) {
            bits += 1 << packet;
          }
          return "" + bits;
        case "need": return "" + lacking(listener);
        case "isDropped": return "" + !listener.live;
        case "badRounds": return "" + listener.bad;
        default:
          return outside(b, 0, k - 1) ? INDEX : lacking(listener) > 0 ? STATE : "" + data[b];
      }
    }

    String begin(int newK, int newPatience) {
      if (outside(newK, 1, 8) || outside(newPatience, 1, 20)) {
        return ARGUMENT;
      }
      String before = "" + sent;
      k = newK;
      patience = newPatience;
      data = new int[k];
      all = new ArrayList<>();
      sent = 0;
      reports = 0;
      keptBack = 0;
      return before;
    }

    String setDatum(int place, int value) {
      if (outside(place, 0, k - 1)) {
        return INDEX;
      }
      if (outside(value, 0, 255)) {
        return ARGUMENT;
      }
      if (sent != 0) {
        return STATE;
      }
      String before = "" + data[place];
      data[place] = value;
      return before;
    }

    String join(int losses, int wait) {
      if (outside(losses, 0, 2047) || outside(wait, 0, 20)) {
        return ARGUMENT;
      }
      if (all.size() == 6) {
        return STATE;
      }
      Listener listener = new Listener();
      listener.losses = losses;
      listener.wait = wait;
      all.add(listener);
      return "" + (all.size() - 1);
    }

    String send(int many) {
      if (outside(many, 1, 16)) {
        return ARGUMENT;
      }
      sendPackets(many);
      int complete = 0;
      for (Listener listener : all) {
        complete += listener.live && lacking(listener) == 0 ? 1 : 0;
      }
      return "" + complete;
    }

    void sendPackets(int many) {
      for (int n = 0; n < many; n++) {
        for (Listener listener : all) {
          boolean lost = (listener.losses >> (sent % 11)) % 2 == 1;
          if (listener.live && !lost) {
            listener.packets.add(sent % 16);
          }
        }
        sent++;
      }
    }

    int lacking(Listener listener) {
      return Math.max(0, k - listener.packets.size());
    }

    int round() {
      List<Listener> wanting = new ArrayList<>();
      for (Listener listener : all) {
        if (listener.live && lacking(listener) > 0) {
          wanting.add(listener);
        }
      }
      wanting.sort((one, other) -> one.wait - other.wait);
      List<Report> made = new ArrayList<>();
      int greatest = 0;
      for (Listener listener : wanting) {
        int lack = lacking(listener);
        boolean silent = false;
        for (Report report : made) {
          silent |= report.wait < listener.wait && report.need >= lack;
        }
        if (silent) {
          keptBack++;
        } else {
          reports++;
          made.add(new Report(listener.wait, lack));
          greatest = Math.max(greatest, lack);
        }
      }
      sendPackets(greatest);
      for (Listener listener : wanting) {
        listener.bad += lacking(listener) > 0 ? 1 : 0;
        listener.live = lacking(listener) == 0 || listener.bad < patience;
      }
      return greatest;
    }

    /** By Newton's divided differences. */
    int value(int place) {
      int[] differences = data.clone();
      for (int order = 1; order < k; order++) {
        for (int i = k - 1; i >= order; i--) {
          differences[i] = quotient(differences[i] ^ differences[i - 1], i ^ (i - order));
        }
      }
      int sum = differences[k - 1];
      for (int i = k - 2; i >= 0; i--) {
        sum = product(sum, place ^ i) ^ differences[i];
      }
      return sum;
    }
  }
}
