/** Promise 4: time answers the one before, or BAD and changes nothing; TIME is told in halves. */
public final class Promise04TimeTest {
  public static void main(String[] args) {
    Answers answers = new Answers();
    ControlFile x = new ControlFile();
    long before = 0;
    long[] times = {1, 0, 0xffffffffL, 0x100000000L, 0x123456789abcdef0L, Long.MAX_VALUE, 5, 5};
    for (long t : times) {
      answers.due("time(" + t + ")", x.time(t), before);
      answers.due("lower half of " + t, x.control(Registers.TIME), (int) t);
      answers.due("upper half of " + t, x.control(Registers.TIMEH), (int) (t >> 32));
      before = t;
    }
    for (long t : new long[] {-1, -2, Long.MIN_VALUE, -0x100000000L}) {
      answers.due("time(" + t + ")", x.time(t), ControlFile.BAD);
      answers.due("time(5) after a bad one", x.time(5), 5);
    }
    answers.end();
  }
}
