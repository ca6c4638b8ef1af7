/** Promise 5: alarm, sentence by sentence, and the bit of S IP that tells it. */
public final class Promise05AlarmTest {
  private static final int TIMER = Registers.bits(5);
  private static final long[] ALARMS = {
    0, 1, 7, 0xffffffffL, 0x100000000L, Long.MAX_VALUE - 1, Long.MAX_VALUE
  };
  private static final long[] BELOW = {-1, -2, -9, -0x100000000L, Long.MIN_VALUE};

  public static void main(String[] args) {
    Answers answers = new Answers();
    theOneBefore(answers);
    belowZero(answers);
    isToldByIp(answers);
    isToldAsItIsNow(answers);
    nothingElseChanges(answers);
    answers.end();
  }

  private static void theOneBefore(Answers answers) {
    answers.sentence("Another ALARM: the one before");
    for (long from : ALARMS) {
      for (long to : ALARMS) {
        ControlFile x = new ControlFile();
        answers.due("alarm(" + from + ")", x.alarm(from), Long.MAX_VALUE);
        answers.due("alarm(" + to + ")", x.alarm(to), from);
        answers.due("alarm(0)", x.alarm(0), to);
      }
    }
  }

  private static void belowZero(Answers answers) {
    answers.sentence("2^63 - 1, if t is below 0");
    for (long t : BELOW) {
      ControlFile x = new ControlFile();
      x.alarm(3);
      x.time(Long.MAX_VALUE - 1);
      answers.due("alarm(" + t + ") answers the one before", x.alarm(t), 3);
      answers.due("IP below it", x.control(Registers.IP), 0);
      x.time(Long.MAX_VALUE);
      answers.due("IP at it", x.control(Registers.IP), TIMER);
      answers.due("alarm(" + t + ") once more", x.alarm(t), Long.MAX_VALUE);
      answers.due("alarm(0)", x.alarm(0), Long.MAX_VALUE);
    }
  }

  private static void isToldByIp(Answers answers) {
    answers.sentence("5: TIME is not below the ALARM");
    for (long alarm : ALARMS) {
      ControlFile x = new ControlFile();
      x.alarm(alarm);
      answers.due("IP at TIME 0, ALARM " + alarm,
          x.control(Registers.IP), alarm == 0 ? TIMER : 0);
      x.time(Math.max(0, alarm - 1));
      answers.due("IP one before ALARM " + alarm,
          x.control(Registers.IP), alarm == 0 ? TIMER : 0);
      x.time(alarm);
      answers.due("IP at ALARM " + alarm, x.control(Registers.IP), TIMER);
      x.time(Math.max(alarm, alarm + 1));
      answers.due("IP one after ALARM " + alarm, x.control(Registers.IP), TIMER);
      x.time(Long.MAX_VALUE);
      answers.due("IP at the last TIME, ALARM " + alarm, x.control(Registers.IP), TIMER);
    }
  }

  private static void isToldAsItIsNow(Answers answers) {
    answers.sentence("5: TIME is not below the ALARM (it does not stay)");
    ControlFile x = new ControlFile();
    x.time(5);
    x.alarm(5);
    answers.due("IP, reached", x.control(Registers.IP), TIMER);
    x.alarm(6);
    answers.due("IP, the alarm put off", x.control(Registers.IP), 0);
    x.time(6);
    answers.due("IP, reached again", x.control(Registers.IP), TIMER);
    x.time(5);
    answers.due("IP, the time put back", x.control(Registers.IP), 0);
  }

  private static void nothingElseChanges(Answers answers) {
    answers.sentence("Another ALARM");
    for (int mode : Registers.MODES) {
      ControlFile x = State.full(mode);
      String before = State.of(x);
      long alarm = x.alarm(9);
      x.alarm(-1);
      answers.due("the upper half of TIME", x.control(Registers.TIMEH), Integer.MAX_VALUE);
      x.alarm(alarm);
      answers.due("all with the first ALARM again", State.of(x), before);
    }
  }
}
