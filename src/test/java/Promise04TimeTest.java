/** Promise 4: time, sentence by sentence. */
public final class Promise04TimeTest {
  private static final long[] TIMES = {
    0, 1, 0x7fffffffL, 0x80000000L, 0xffffffffL, 0x100000000L, 0x100000001L,
    0x123456789abcdef0L, Long.MAX_VALUE - 1, Long.MAX_VALUE
  };
  private static final long[] BELOW = {
    -1, -2, -0x80000000L, -0x100000000L, Long.MIN_VALUE, Long.MIN_VALUE + 1
  };

  public static void main(String[] args) {
    Answers answers = new Answers();
    theOneBefore(answers);
    halves(answers);
    belowZero(answers);
    nothingElseChanges(answers);
    answers.end();
  }

  private static void theOneBefore(Answers answers) {
    answers.sentence("Another TIME: the one before");
    for (long from : TIMES) {
      for (long to : TIMES) {
        ControlFile x = new ControlFile();
        answers.due("time(" + from + ")", x.time(from), 0);
        answers.due("time(" + to + ")", x.time(to), from);
        answers.due("time(0)", x.time(0), to);
      }
    }
  }

  private static void halves(Answers answers) {
    answers.sentence("0xc01 TIME, its lower 32 bits, 0xc81 the upper ones");
    for (int mode : Registers.MODES) {
      ControlFile x = State.inMode(mode);
      for (long t : TIMES) {
        x.time(t);
        answers.due("lower half of " + t, x.control(Registers.TIME), (int) (t % (1L << 32)));
        answers.due("upper half of " + t, x.control(Registers.TIMEH), t / (1L << 32));
        x.access(Registers.TIME, Registers.READ, 0);
        answers.due("lower half of " + t + " read", x.old(), (int) (t % (1L << 32)));
        x.access(Registers.TIMEH, Registers.READ, 0);
        answers.due("upper half of " + t + " read", x.old(), t / (1L << 32));
      }
    }
  }

  private static void belowZero(Answers answers) {
    answers.sentence("BAD: it is below 0");
    for (long now : TIMES) {
      ControlFile x = new ControlFile();
      x.alarm(0x80000000L);
      x.time(now);
      String before = State.of(x);
      for (long t : BELOW) {
        answers.due("time(" + t + ")", x.time(t), ControlFile.BAD);
      }
      answers.due("all after refused calls", State.of(x), before);
      answers.due("time(0) after refused calls", x.time(0), now);
    }
  }

  private static void nothingElseChanges(Answers answers) {
    answers.sentence("Another TIME");
    ControlFile x = State.full(Registers.VU);
    String before = State.of(x);
    for (long t : TIMES) {
      x.time(t);
    }
    answers.due("all with the last TIME again", State.of(x), before);
  }
}
