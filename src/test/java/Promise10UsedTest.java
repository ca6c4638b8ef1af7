/** Promise 10: used counts the registers that tell a bit, those that tell of others too. */
public final class Promise10UsedTest {
  public static void main(String[] args) {
    Answers answers = new Answers();
    ControlFile x = new ControlFile();
    answers.due("used() at first", x.used(), 0);
    x.access(Registers.STATUS, Registers.WRITE, 1);
    answers.due("with nothing kept", x.used(), 0);
    x.access(Registers.SCRATCH, Registers.WRITE, 1 << 31);
    answers.due("with SCRATCH", x.used(), 1);
    x.time(0x100000000L);
    answers.due("with the upper half of TIME", x.used(), 2);
    x.time(0xffffffffL);
    answers.due("with the lower half of TIME", x.used(), 2);
    x.time(0x100000001L);
    answers.due("with both", x.used(), 3);
    x.line(true);
    answers.due("with IP by the line", x.used(), 4);
    x.alarm(0);
    answers.due("with IP by line and alarm", x.used(), 4);
    x.access(Registers.HVIP, Registers.WRITE, 0x40);
    answers.due("with HVIP and HIP", x.used(), 6);
    x.access(Registers.HIDELEG, Registers.WRITE, 0x44);
    answers.due("with HIDELEG and VS IP", x.used(), 8);
    x.access(Registers.HIE, Registers.WRITE, 0x400);
    answers.due("with HIE, not in HIDELEG", x.used(), 9);
    x.access(Registers.VSIE, Registers.SET, 0x2);
    answers.due("with VS IE", x.used(), 10);
    for (int mode = Registers.U; mode <= Registers.VS; mode++) {
      x.mode(mode);
      answers.due("in mode " + mode, x.used(), 10);
    }
    answers.end();
  }
}
