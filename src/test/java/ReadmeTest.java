/** The example of README.md answers what is said there. */
public final class ReadmeTest {
  private ReadmeTest() {}

  public static void main(String[] args) {
    Checks.part("the example of README.md");
    RepairSender sender = new RepairSender();
    sender.begin(3, 5);
    Checks.due("setDatum(0, 17)", 0, sender.setDatum(0, 17));
    sender.setDatum(1, 200);
    sender.setDatum(2, 99);
    int near = sender.join(0, 0);
    Checks.due("near", 0, near);
    int far = sender.join(0b110, 4);
    Checks.due("far", 1, far);
    Checks.due("send(3)", 1, sender.send(3));
    Checks.due("need(far)", 2, sender.need(far));
    Checks.due("round()", 2, sender.round());
    Checks.due("has(far)", 0b11001, sender.has(far));
    Checks.due("rebuilt(far, 1)", 200, sender.rebuilt(far, 1));
    Checks.due("rebuiltByElimination(far, 1)", 200, sender.rebuiltByElimination(far, 1));
    Checks.end();
  }
}
