/** Promise 6: line answers whether it was on; IP bit 9 tells it. */
public final class Promise06LineTest {
  public static void main(String[] args) {
    Answers answers = new Answers();
    ControlFile x = new ControlFile();
    boolean before = false;
    for (boolean on : new boolean[] {false, true, true, false, false, true, false}) {
      answers.due("line(" + on + ")", x.line(on), before);
      answers.due("IP with the line " + on, x.control(Registers.IP), on ? 0x200 : 0);
      before = on;
    }
    answers.end();
  }
}
