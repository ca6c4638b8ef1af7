/** Promise 8: old, sentence by sentence. */
public final class Promise08OldTest {
  public static void main(String[] args) {
    Answers answers = new Answers();
    beforeOne(answers);
    theLatest(answers);
    thatWasAllowed(answers);
    otherCallsLeaveIt(answers);
    readsTellWhatIsTold(answers);
    answers.end();
  }

  private static void beforeOne(Answers answers) {
    answers.sentence("0 before one");
    ControlFile x = new ControlFile();
    answers.due("old() at first", x.old(), 0);
    x.time(7);
    x.alarm(3);
    x.line(true);
    x.control(Registers.TIME);
    answers.due("old() after calls that are no access", x.old(), 0);
    answers.due("a bad kind", x.access(Registers.TIME, 4, 0), ControlFile.BAD);
    answers.due("old() after a bad kind", x.old(), 0);
    x.access(Registers.TIME, Registers.WRITE, 9);
    x.access(5, Registers.READ, 9);
    x.mode(Registers.U);
    x.access(Registers.IP, Registers.READ, 9);
    x.mode(Registers.VU);
    x.access(Registers.IP, Registers.READ, 9);
    answers.due("old() after refused accesses", x.old(), 0);
    x.access(Registers.TIME, Registers.READ, 9);
    answers.due("old() after the first that was allowed", x.old(), 7);
    x.begin();
    answers.due("old() after begin()", x.old(), 0);
  }

  private static void theLatest(Answers answers) {
    answers.sentence("The old value of the latest access");
    ControlFile x = new ControlFile();
    x.access(Registers.SCRATCH, Registers.WRITE, 6);
    answers.due("after a write", x.old(), 0);
    x.access(Registers.SCRATCH, Registers.SET, 9);
    answers.due("after a set", x.old(), 6);
    x.access(Registers.SCRATCH, Registers.CLEAR, 3);
    answers.due("after a clear", x.old(), 15);
    x.access(Registers.SCRATCH, Registers.READ, 1);
    answers.due("after a read", x.old(), 12);
    answers.due("asked again", x.old(), 12);
    x.access(Registers.TVAL, Registers.WRITE, -1);
    answers.due("after a write of one that was 0", x.old(), 0);
    x.access(Registers.TVAL, Registers.WRITE, Integer.MIN_VALUE);
    answers.due("after a write of one with all bits", x.old(), -1);
    x.access(Registers.TVAL, Registers.WRITE, 0);
    answers.due("after a write of one with the top bit", x.old(), Integer.MIN_VALUE);
  }

  private static void thatWasAllowed(Answers answers) {
    answers.sentence("of the latest access that was allowed");
    for (int mode : Registers.MODES) {
      for (int number : Registers.joined(Registers.ALL, Registers.STRANGE)) {
        for (int kind : new int[] {-1, 0, 1, 2, 3, 4}) {
          ControlFile x = State.full(Registers.S);
          x.access(Registers.TVAL, Registers.WRITE, 77);
          x.access(Registers.TVAL, Registers.READ, 0);
          x.mode(mode);
          int told = toldInMode(x, mode, number);
          int answer = x.access(number, kind, 0x123);
          answers.due("old() in mode " + mode + " after " + Registers.call(number, kind, 0x123)
              + " that answered " + answer, x.old(), answer == 0 ? told : 77);
        }
      }
    }
  }

  private static int toldInMode(ControlFile x, int mode, int number) {
    for (int i = 0; i < Registers.OF_S.length; i++) {
      if (mode == Registers.VS && Registers.OF_S[i] == number) {
        return x.control(Registers.OF_VS[i]);
      }
    }
    return x.control(number);
  }

  private static void otherCallsLeaveIt(Answers answers) {
    answers.sentence("the latest access (other calls are none)");
    ControlFile x = new ControlFile();
    x.access(Registers.SCRATCH, Registers.WRITE, 12);
    x.access(Registers.SCRATCH, Registers.WRITE, 5);
    x.mode(Registers.VS);
    answers.due("after mode", x.old(), 12);
    x.mode(4);
    answers.due("after a bad mode", x.old(), 12);
    x.time(3);
    x.time(-1);
    answers.due("after time", x.old(), 12);
    x.alarm(3);
    x.alarm(-1);
    answers.due("after alarm", x.old(), 12);
    x.line(true);
    answers.due("after line", x.old(), 12);
    x.control(Registers.SCRATCH);
    x.control(Registers.TIME);
    answers.due("after control", x.old(), 12);
    x.used();
    answers.due("after used", x.old(), 12);
    x.due();
    answers.due("after due", x.old(), 12);
  }

  private static void readsTellWhatIsTold(Answers answers) {
    answers.sentence("its old value is at hand (what is told of others too)");
    ControlFile x = new ControlFile();
    x.time(0x7000000180000002L);
    x.alarm(1);
    x.line(true);
    x.access(Registers.HVIP, Registers.WRITE, 0x444);
    x.access(Registers.HIE, Registers.WRITE, 0x404);
    x.access(Registers.HIDELEG, Registers.WRITE, 0x440);
    int[][] rows = {
      {Registers.IP, 0x220}, {Registers.HIP, 0x444}, {Registers.VSIP, 0x220},
      {Registers.VSIE, 0x200}, {Registers.TIME, 0x80000002}, {Registers.TIMEH, 0x70000001},
    };
    for (int[] row : rows) {
      x.access(row[0], Registers.READ, -1);
      answers.due("old() of " + Registers.hex(row[0]), x.old(), row[1]);
    }
  }
}
