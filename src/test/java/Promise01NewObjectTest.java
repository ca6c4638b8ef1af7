/** Promise 1: a new object, sentence by sentence. */
public final class Promise01NewObjectTest {
  public static void main(String[] args) {
    Answers answers = new Answers();
    modeIsS(answers);
    timeIsZero(answers);
    alarmIsTheLast(answers);
    lineIsOff(answers);
    allRegistersAreZero(answers);
    objectsAreApart(answers);
    answers.end();
  }

  private static void modeIsS(Answers answers) {
    answers.sentence("Mode S");
    for (int m : Registers.MODES) {
      answers.due("mode(" + m + ")", new ControlFile().mode(m), Registers.S);
    }
    for (int number : Registers.ALL) {
      answers.due(Registers.call(number, Registers.READ, 0),
          new ControlFile().access(number, Registers.READ, 0), 0);
    }
  }

  private static void timeIsZero(Answers answers) {
    answers.sentence("TIME 0");
    answers.due("time(0)", new ControlFile().time(0), 0);
    answers.due("time(2^63 - 1)", new ControlFile().time(Long.MAX_VALUE), 0);
    answers.due("the lower half", new ControlFile().control(Registers.TIME), 0);
    answers.due("the upper half", new ControlFile().control(Registers.TIMEH), 0);
  }

  private static void alarmIsTheLast(Answers answers) {
    answers.sentence("the ALARM 2^63 - 1");
    answers.due("alarm(0)", new ControlFile().alarm(0), Long.MAX_VALUE);
    answers.due("alarm(-1)", new ControlFile().alarm(-1), Long.MAX_VALUE);
    ControlFile x = new ControlFile();
    answers.due("IP at TIME 0", x.control(Registers.IP), 0);
    x.time(Long.MAX_VALUE - 1);
    answers.due("IP at TIME 2^63 - 2", x.control(Registers.IP), 0);
    x.time(Long.MAX_VALUE);
    answers.due("IP at TIME 2^63 - 1", x.control(Registers.IP), Registers.bits(5));
  }

  private static void lineIsOff(Answers answers) {
    answers.sentence("the line off");
    answers.due("line(true)", new ControlFile().line(true), false);
    answers.due("line(false)", new ControlFile().line(false), false);
    answers.due("IP", new ControlFile().control(Registers.IP), 0);
  }

  private static void allRegistersAreZero(Answers answers) {
    answers.sentence("All are 0 at first");
    for (int number : Registers.ALL) {
      ControlFile x = new ControlFile();
      answers.due("control " + Registers.hex(number), x.control(number), 0);
      x.access(number, Registers.READ, -1);
      answers.due("a read of " + Registers.hex(number), x.old(), 0);
      answers.due("control after the read", x.control(number), 0);
    }
    answers.due("used()", new ControlFile().used(), 0);
    for (int m : Registers.MODES) {
      answers.due("due() in mode " + m, State.inMode(m).due(), ControlFile.BAD);
    }
  }

  private static void objectsAreApart(Answers answers) {
    answers.sentence("A new object");
    String fresh = State.of(new ControlFile());
    ControlFile one = State.full(Registers.VU);
    String before = State.of(one);
    ControlFile other = new ControlFile();
    answers.due("the other one", State.of(other), fresh);
    State.fill(other);
    other.begin();
    answers.due("the first one", State.of(one), before);
  }
}
