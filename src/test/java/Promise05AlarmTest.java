/** Promise 5: alarm answers the one before; one below 0 is 2^63 - 1; IP bit 5 tells it. */
public final class Promise05AlarmTest {
  private static final int TIMER = Registers.bits(5);

  public static void main(String[] args) {
    Answers answers = new Answers();
    answersTheOneBefore(answers);
    isToldByIp(answers);
    answers.end();
  }

  private static void answersTheOneBefore(Answers answers) {
    ControlFile x = new ControlFile();
    long before = Long.MAX_VALUE;
    for (long t : new long[] {0, 7, -1, 7, Long.MIN_VALUE, 0x100000000L, Long.MAX_VALUE, 3}) {
      answers.due("alarm(" + t + ")", x.alarm(t), before);
      before = t < 0 ? Long.MAX_VALUE : t;
    }
  }

  private static void isToldByIp(Answers answers) {
    ControlFile x = new ControlFile();
    long[][] pairs = {
      {0, 0}, {0, 1}, {4, 5}, {5, 5}, {6, 5}, {0xffffffffL, 0x100000000L},
      {0x100000000L, 0xffffffffL}, {Long.MAX_VALUE - 1, -1}, {Long.MAX_VALUE, -1},
      {Long.MAX_VALUE, Long.MAX_VALUE}
    };
    for (long[] pair : pairs) {
      x.time(pair[0]);
      x.alarm(pair[1]);
      boolean reached = pair[0] >= (pair[1] < 0 ? Long.MAX_VALUE : pair[1]);
      answers.due("IP at " + pair[0] + " with the alarm at " + pair[1],
          x.control(Registers.IP), reached ? TIMER : 0);
    }
  }
}
