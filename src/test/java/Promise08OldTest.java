/** Promise 8: old is the value before the latest access that was allowed; 0 before one. */
public final class Promise08OldTest {
  public static void main(String[] args) {
    Answers answers = new Answers();
    ControlFile x = new ControlFile();
    answers.due("old() at first", x.old(), 0);
    x.access(Registers.SCRATCH, Registers.WRITE, 6);
    answers.due("after a write", x.old(), 0);
    x.access(Registers.SCRATCH, Registers.SET, 9);
    answers.due("after a set", x.old(), 6);
    x.access(Registers.SCRATCH, Registers.CLEAR, 3);
    answers.due("after a clear", x.old(), 15);
    x.access(Registers.SCRATCH, Registers.READ, 1);
    answers.due("after a read", x.old(), 12);
    answers.due("asked again", x.old(), 12);
    otherCallsLeaveIt(answers, x);
    readsTellWhatIsTold(answers);
    answers.end();
  }

  private static void otherCallsLeaveIt(Answers answers, ControlFile x) {
    x.access(Registers.SCRATCH, 4, 0);
    x.access(Registers.TIME, Registers.WRITE, 0);
    x.access(5, Registers.READ, 0);
    answers.due("after accesses refused in S", x.old(), 12);
    x.mode(Registers.U);
    x.access(Registers.TVAL, Registers.READ, 0);
    x.mode(Registers.VS);
    x.access(Registers.HTVAL, Registers.READ, 0);
    answers.due("after accesses refused in U and VS", x.old(), 12);
    x.control(Registers.TVEC);
    x.time(3);
    x.alarm(3);
    x.line(true);
    x.used();
    x.due();
    answers.due("after calls that are no access", x.old(), 12);
    x.access(Registers.TIME, Registers.READ, 0);
    answers.due("after TIME is read", x.old(), 3);
  }

  private static void readsTellWhatIsTold(Answers answers) {
    ControlFile x = new ControlFile();
    x.time(0x7000000180000002L);
    x.alarm(1);
    x.line(true);
    x.access(Registers.HVIP, Registers.WRITE, 0x444);
    x.access(Registers.HIE, Registers.WRITE, 0x404);
    x.access(Registers.HIDELEG, Registers.WRITE, 0x440);
    int[][] rows = {
      {Registers.IP, 0x220}, {Registers.HIP, 0x444}, {Registers.VSIP, 0x220},
      {Registers.VSIE, 0x200}, {Registers.TIME, 0x80000002}, {Registers.TIMEH, 0x70000001},
    };
    for (int[] row : rows) {
      x.access(row[0], Registers.READ, -1);
      answers.due("old() of " + Registers.hex(row[0]), x.old(), row[1]);
    }
  }
}
