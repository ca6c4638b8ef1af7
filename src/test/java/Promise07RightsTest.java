/** Promise 7: each row of ACCESS, and that a refused access changes nothing. */
public final class Promise07RightsTest {
  private static final int VTVM = Registers.bits(20);
  private static final int OTHER_BITS = Registers.bits(6, 7, 8, 9, 21, 22);
  private static final int[] WRITES = {Registers.WRITE, Registers.SET, Registers.CLEAR};
  private static final int[] S_WITHOUT_ATP = {
    Registers.STATUS, Registers.IE, Registers.TVEC, Registers.SCRATCH, Registers.EPC,
    Registers.CAUSE, Registers.TVAL, Registers.IP
  };

  public static void main(String[] args) {
    Answers answers = new Answers();
    noneOfThese(answers);
    writesOfTime(answers);
    inS(answers);
    inU(answers);
    inVs(answers);
    inVu(answers);
    atpWithVtvm(answers);
    vtvmGuardsNothingElse(answers);
    othersAreVirtual(answers);
    changingNothing(answers);
    answers.end();
  }

  private static void each(Answers answers, int mode, int hstatus, int[] numbers, int[] kinds,
      int want) {
    for (int number : numbers) {
      for (int kind : kinds) {
        for (int value : new int[] {0, -1}) {
          answers.due("mode " + mode + " HSTATUS " + Registers.hex(hstatus) + " "
              + Registers.call(number, kind, value),
              State.inMode(mode, hstatus).access(number, kind, value), want);
        }
      }
    }
  }

  private static void noneOfThese(Answers answers) {
    answers.sentence("of a number that is none of these: ILLEGAL");
    for (int mode : Registers.MODES) {
      each(answers, mode, 0, Registers.STRANGE, Registers.KINDS, ControlFile.ILLEGAL);
      each(answers, mode, VTVM, Registers.STRANGE, Registers.KINDS, ControlFile.ILLEGAL);
      for (int number = 0; number < 0x1000; number++) {
        if (!Registers.exists(number)) {
          int[] one = {number};
          each(answers, mode, 0, one, Registers.KINDS, ControlFile.ILLEGAL);
        }
      }
    }
  }

  private static void writesOfTime(Answers answers) {
    answers.sentence("or a write of 0xc01, 0xc81: ILLEGAL");
    for (int mode : Registers.MODES) {
      each(answers, mode, 0, Registers.OF_TIME, WRITES, ControlFile.ILLEGAL);
      each(answers, mode, VTVM, Registers.OF_TIME, WRITES, ControlFile.ILLEGAL);
    }
  }

  private static void inS(Answers answers) {
    answers.sentence("In S all others are allowed");
    each(answers, Registers.S, 0, Registers.WRITABLE, Registers.KINDS, 0);
    each(answers, Registers.S, -1, Registers.WRITABLE, Registers.KINDS, 0);
    int[] read = {Registers.READ};
    each(answers, Registers.S, 0, Registers.OF_TIME, read, 0);
  }

  private static void inU(Answers answers) {
    answers.sentence("in U only TIMEs, others are illegal");
    int[] read = {Registers.READ};
    for (int hstatus : new int[] {0, -1, Registers.bits(9)}) {
      each(answers, Registers.U, hstatus, Registers.OF_TIME, read, 0);
      each(answers, Registers.U, hstatus, Registers.WRITABLE, Registers.KINDS,
          ControlFile.ILLEGAL);
    }
  }

  private static void inVs(Answers answers) {
    answers.sentence("in VS S ones and TIMEs");
    int[] read = {Registers.READ};
    for (int hstatus : new int[] {0, OTHER_BITS}) {
      each(answers, Registers.VS, hstatus, Registers.OF_S, Registers.KINDS, 0);
      each(answers, Registers.VS, hstatus, Registers.OF_TIME, read, 0);
    }
  }

  private static void inVu(Answers answers) {
    answers.sentence("in VU TIMEs");
    int[] read = {Registers.READ};
    each(answers, Registers.VU, 0, Registers.OF_TIME, read, 0);
    each(answers, Registers.VU, -1, Registers.OF_TIME, read, 0);
  }

  private static void atpWithVtvm(Answers answers) {
    answers.sentence("but ATP with VTVM");
    int[] atp = {Registers.ATP};
    each(answers, Registers.VS, VTVM, atp, Registers.KINDS, ControlFile.VIRTUAL);
    each(answers, Registers.VS, -1, atp, Registers.KINDS, ControlFile.VIRTUAL);
    each(answers, Registers.VS, OTHER_BITS, atp, Registers.KINDS, 0);
    ControlFile x = State.inMode(Registers.VS, VTVM);
    answers.due("ATP with VTVM", x.access(Registers.ATP, Registers.WRITE, 3),
        ControlFile.VIRTUAL);
    x.mode(Registers.S);
    x.access(Registers.HSTATUS, Registers.CLEAR, VTVM);
    x.mode(Registers.VS);
    answers.due("ATP with VTVM cleared", x.access(Registers.ATP, Registers.WRITE, 5), 0);
    answers.due("VS ATP", x.control(Registers.VSATP), 5);
  }

  private static void vtvmGuardsNothingElse(Answers answers) {
    answers.sentence("in VS S ones (but ATP with VTVM) and TIMEs");
    int[] read = {Registers.READ};
    each(answers, Registers.VS, VTVM, S_WITHOUT_ATP, Registers.KINDS, 0);
    each(answers, Registers.VS, VTVM, Registers.OF_TIME, read, 0);
    int[] both = {Registers.ATP, Registers.VSATP};
    each(answers, Registers.S, VTVM, both, Registers.KINDS, 0);
    each(answers, Registers.U, VTVM, both, Registers.KINDS, ControlFile.ILLEGAL);
  }

  private static void othersAreVirtual(Answers answers) {
    answers.sentence("others are VIRTUAL");
    for (int hstatus : new int[] {0, -1, VTVM}) {
      each(answers, Registers.VS, hstatus, Registers.OF_VS, Registers.KINDS, ControlFile.VIRTUAL);
      each(answers, Registers.VS, hstatus, Registers.OF_H, Registers.KINDS, ControlFile.VIRTUAL);
      each(answers, Registers.VU, hstatus, Registers.WRITABLE, Registers.KINDS,
          ControlFile.VIRTUAL);
    }
  }

  private static void changingNothing(Answers answers) {
    answers.sentence("ILLEGAL or VIRTUAL, changing nothing");
    for (int mode : Registers.MODES) {
      for (int number : Registers.joined(Registers.ALL, Registers.STRANGE)) {
        ControlFile empty = State.inMode(mode, VTVM);
        ControlFile full = State.full(mode);
        refusedChangesNothing(answers, empty, number);
        refusedChangesNothing(answers, full, number);
      }
    }
  }

  private static void refusedChangesNothing(Answers answers, ControlFile x, int number) {
    for (int kind : Registers.KINDS) {
      String before = State.of(x);
      int answer = x.access(number, kind, kind == Registers.WRITE ? 0x5a5a5a5a : -1);
      if (answer != 0) {
        answers.due("all after " + Registers.call(number, kind, -1), State.of(x), before);
      }
    }
  }
}
