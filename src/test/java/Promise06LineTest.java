/** Promise 6: line, sentence by sentence, and the bit of S IP that tells it. */
public final class Promise06LineTest {
  private static final int LINE = Registers.bits(9);

  public static void main(String[] args) {
    Answers answers = new Answers();
    whetherItWasOn(answers);
    isToldByIp(answers);
    nothingElseChanges(answers);
    answers.end();
  }

  private static void whetherItWasOn(Answers answers) {
    answers.sentence("The line goes on or off: whether it was on");
    for (int mode : Registers.MODES) {
      ControlFile x = State.inMode(mode);
      boolean before = false;
      for (boolean on : new boolean[] {false, true, true, true, false, false, true, false}) {
        answers.due("line(" + on + ")", x.line(on), before);
        before = on;
      }
    }
  }

  private static void isToldByIp(Answers answers) {
    answers.sentence("9: the LINE is on");
    ControlFile x = new ControlFile();
    for (boolean on : new boolean[] {false, true, true, false, false, true, false}) {
      x.line(on);
      answers.due("IP with the line " + on, x.control(Registers.IP), on ? LINE : 0);
      x.access(Registers.IP, Registers.WRITE, on ? 0 : LINE);
      answers.due("IP written against the line", x.control(Registers.IP), on ? LINE : 0);
    }
  }

  private static void nothingElseChanges(Answers answers) {
    answers.sentence("The line goes on or off");
    ControlFile x = State.full(Registers.VS);
    String before = State.of(x);
    x.line(false);
    answers.due("IP without it", x.control(Registers.IP), Registers.bits(1, 5));
    x.line(true);
    answers.due("all with the line on again", State.of(x), before);
  }
}
