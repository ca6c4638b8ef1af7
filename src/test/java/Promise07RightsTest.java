/** Promise 7, who has access: every number and some more, in every mode and kind. */
public final class Promise07RightsTest {
  private static final int VTVM = Registers.bits(20);

  public static void main(String[] args) {
    Answers answers = new Answers();
    for (int mode = Registers.U; mode <= Registers.VS; mode++) {
      for (int kind = Registers.READ; kind <= Registers.CLEAR; kind++) {
        everyNumber(answers, mode, kind, 0);
        everyNumber(answers, mode, kind, VTVM);
        strangeNumbers(answers, mode, kind);
      }
      badKinds(answers, mode);
    }
    refusalsChangeNothing(answers);
    otherTrapBitsDoNotGuardAtp(answers);
    answers.end();
  }

  private static ControlFile inMode(int mode, int hstatus) {
    ControlFile x = new ControlFile();
    x.access(Registers.HSTATUS, Registers.WRITE, hstatus);
    x.mode(mode);
    return x;
  }

  private static void everyNumber(Answers answers, int mode, int kind, int hstatus) {
    for (int number = 0; number < 0x1000; number++) {
      answers.due("mode " + mode + " access(" + Registers.hex(number) + ", " + kind + ", 0)",
          inMode(mode, hstatus).access(number, kind, 0), right(mode, number, kind, hstatus != 0));
    }
  }

  private static int right(int mode, int number, int kind, boolean vtvm) {
    boolean time = Registers.isIn(Registers.OF_TIME, number);
    if (!Registers.exists(number) || (time && kind != Registers.READ)) {
      return ControlFile.ILLEGAL;
    }
    if (time) {
      return 0;
    }
    switch (mode) {
      case Registers.S:
        return 0;
      case Registers.U:
        return ControlFile.ILLEGAL;
      case Registers.VS:
        boolean free = Registers.isIn(Registers.OF_S, number)
            && !(number == Registers.ATP && vtvm);
        return free ? 0 : ControlFile.VIRTUAL;
      default:
        return ControlFile.VIRTUAL;
    }
  }

  private static void strangeNumbers(Answers answers, int mode, int kind) {
    int[] strange = {
      -1, 0x1000, 0x1100, 0x1c01, 0x10000 | Registers.STATUS, Integer.MAX_VALUE,
      Integer.MIN_VALUE, Integer.MIN_VALUE | Registers.SCRATCH, ~Registers.STATUS
    };
    for (int number : strange) {
      answers.due("access(" + Registers.hex(number) + ", " + kind + ", 0)",
          inMode(mode, 0).access(number, kind, 0), ControlFile.ILLEGAL);
    }
  }

  private static void badKinds(Answers answers, int mode) {
    ControlFile x = inMode(mode, VTVM);
    for (int kind : new int[] {4, -1, 5, Integer.MAX_VALUE, Integer.MIN_VALUE}) {
      for (int number : new int[] {Registers.STATUS, Registers.ATP, Registers.TIME, 5, -1}) {
        answers.due("access(" + Registers.hex(number) + ", " + kind + ", -1)",
            x.access(number, kind, -1), ControlFile.BAD);
      }
    }
    answers.due("used() after bad kinds", x.used(), 1);
  }

  private static void refusalsChangeNothing(Answers answers) {
    ControlFile x = inMode(Registers.S, VTVM);
    x.time(9);
    x.access(Registers.SCRATCH, Registers.WRITE, 77);
    x.access(Registers.SCRATCH, Registers.READ, 0);
    for (int mode : new int[] {Registers.U, Registers.VU, Registers.VS}) {
      x.mode(mode);
      for (int[] numbers : new int[][] {Registers.OF_VS, Registers.OF_H, Registers.OF_TIME}) {
        for (int number : numbers) {
          x.access(number, Registers.WRITE, -1);
        }
      }
      x.access(Registers.ATP, Registers.WRITE, -1);
      x.access(5, Registers.WRITE, -1);
      answers.due("old() after refusals", x.old(), 77);
      answers.due("used() after refusals", x.used(), 3);
      answers.due("HSTATUS after refusals", x.control(Registers.HSTATUS), VTVM);
      answers.due("time(9) after refusals", x.time(9), 9);
    }
  }

  private static void otherTrapBitsDoNotGuardAtp(Answers answers) {
    ControlFile x = inMode(Registers.VS, ~VTVM);
    answers.due("ATP in VS without VTVM", x.access(Registers.ATP, Registers.WRITE, 3), 0);
    answers.due("VS ATP", x.control(Registers.VSATP), 3);
  }
}
