/** Promise 10: used, from none to all, and what registers tell of others. */
public final class Promise10UsedTest {
  public static void main(String[] args) {
    Answers answers = new Answers();
    noneAndAll(answers);
    eachBitOfEach(answers);
    inWhatTheyTell(answers);
    whatIsNotKept(answers);
    inEveryMode(answers);
    answers.end();
  }

  private static void noneAndAll(Answers answers) {
    answers.sentence("How many registers have a bit set");
    answers.due("none", new ControlFile().used(), 0);
    answers.due("all", State.full(Registers.S).used(), 29);
    ControlFile x = State.full(Registers.S);
    x.begin();
    answers.due("none after begin()", x.used(), 0);
  }

  /** Every register but those that others tell of counts one, for any bit that it keeps. */
  private static void eachBitOfEach(Answers answers) {
    answers.sentence("have a bit set");
    for (int number : Registers.WRITABLE) {
      boolean ofHvip = number == Registers.HVIP || number == Registers.HIP;
      for (int bit = 0; bit < 32; bit++) {
        ControlFile x = new ControlFile();
        x.access(number, Registers.WRITE, 1 << bit);
        int one = ofHvip ? 2 : 1;
        answers.due("used() with bit " + bit + " of " + Registers.hex(number),
            x.used(), x.control(number) != 0 ? one : 0);
        x.access(number, Registers.WRITE, 0);
        answers.due("used() without it", x.used(), 0);
      }
    }
  }

  private static void inWhatTheyTell(Answers answers) {
    answers.sentence("in what they tell");
    ControlFile x = new ControlFile();
    x.time(0x100000000L);
    answers.due("with the upper half of TIME", x.used(), 1);
    x.time(0xffffffffL);
    answers.due("with the lower half of TIME", x.used(), 1);
    x.time(0x100000001L);
    answers.due("with both", x.used(), 2);
    x.line(true);
    answers.due("with IP by the line", x.used(), 3);
    x.alarm(0);
    answers.due("with IP by line and alarm", x.used(), 3);
    x.line(false);
    answers.due("with IP by the alarm", x.used(), 3);
    x.access(Registers.HVIP, Registers.WRITE, 0x40);
    answers.due("with HVIP and HIP", x.used(), 5);
    x.access(Registers.HIDELEG, Registers.WRITE, 0x44);
    answers.due("with HIDELEG and VS IP", x.used(), 7);
    x.access(Registers.HIE, Registers.WRITE, 0x400);
    answers.due("with HIE, not in HIDELEG", x.used(), 8);
    x.access(Registers.VSIE, Registers.SET, 0x2);
    answers.due("with VS IE", x.used(), 9);
    x.access(Registers.HIDELEG, Registers.WRITE, 0);
    answers.due("without HIDELEG, VS IP, VS IE", x.used(), 6);
    x.alarm(-1);
    answers.due("without IP", x.used(), 5);
  }

  private static void whatIsNotKept(Answers answers) {
    answers.sentence("have a bit set (what a write did not keep is none)");
    ControlFile x = new ControlFile();
    x.access(Registers.STATUS, Registers.WRITE, ~Registers.bits(1, 5, 8, 18, 19));
    x.access(Registers.IP, Registers.WRITE, ~2);
    x.access(Registers.HIP, Registers.WRITE, ~4);
    x.access(Registers.VSIP, Registers.WRITE, -1);
    x.access(Registers.VSIE, Registers.WRITE, -1);
    x.access(Registers.TIME, Registers.WRITE, -1);
    x.access(5, Registers.WRITE, -1);
    x.access(Registers.SCRATCH, 4, -1);
    x.time(-1);
    answers.due("used()", x.used(), 0);
  }

  private static void inEveryMode(Answers answers) {
    answers.sentence("How many registers (in every mode)");
    for (int mode : Registers.MODES) {
      answers.due("all in mode " + mode, State.full(mode).used(), 29);
      answers.due("none in mode " + mode, State.inMode(mode).used(), 0);
      ControlFile x = new ControlFile();
      x.access(Registers.VSSCRATCH, Registers.WRITE, 1 << 31);
      x.mode(mode);
      answers.due("one in mode " + mode, x.used(), 1);
      String before = State.of(x);
      x.used();
      answers.due("all after used()", State.of(x), before);
    }
  }
}
