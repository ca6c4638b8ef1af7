/** Promise 7, what a write keeps, and what goes to another register. */
public final class Promise07WritesTest {
  private static final int ALL = -1;
  private static final int H_BITS = Registers.bits(2, 6, 10);
  private static final int ATP_BITS = 1 << 31 | (1 << 22) - 1;
  private static final int STATUS_BITS = Registers.bits(1, 5, 8, 18, 19);

  /** A number and what a write of it keeps, of those that hold what is written. */
  private static final int[][] PLAIN = {
    {Registers.STATUS, STATUS_BITS}, {Registers.VSSTATUS, STATUS_BITS},
    {Registers.IE, Registers.bits(1, 5, 9)},
    {Registers.TVEC, ~Registers.bits(1)}, {Registers.VSTVEC, ~Registers.bits(1)},
    {Registers.SCRATCH, ALL}, {Registers.VSSCRATCH, ALL},
    {Registers.EPC, ~Registers.bits(0, 1)}, {Registers.VSEPC, ~Registers.bits(0, 1)},
    {Registers.CAUSE, ALL}, {Registers.VSCAUSE, ALL},
    {Registers.TVAL, ALL}, {Registers.VSTVAL, ALL},
    {Registers.IP, Registers.bits(1)},
    {Registers.ATP, ATP_BITS}, {Registers.VSATP, ATP_BITS},
    {Registers.HSTATUS, Registers.bits(6, 7, 8, 9, 20, 21, 22)},
    {Registers.HEDELEG, Registers.bits(0, 1, 2, 3, 4, 5, 6, 7, 8, 12, 13, 15)},
    {Registers.HIDELEG, H_BITS}, {Registers.HIE, H_BITS}, {Registers.HVIP, H_BITS},
    {Registers.HTVAL, ALL}, {Registers.HTINST, ALL},
    {Registers.HIP, Registers.bits(2)},
    {Registers.HGATP, ATP_BITS & ~Registers.bits(0, 1)},
  };

  public static void main(String[] args) {
    Answers answers = new Answers();
    for (int[] row : PLAIN) {
      everyBitAlone(answers, row[0], row[1]);
      everyKind(answers, row[0], row[1]);
      noOtherIsTouched(answers, row[0]);
    }
    sNumbersInVs(answers);
    ipKeepsTimerAndLine(answers);
    hipWritesBitTwoOfHvip(answers);
    vsIpWritesBitTwoOfHvip(answers);
    vsIeWritesHie(answers);
    vsIeSetsAndClears(answers);
    answers.end();
  }

  private static void everyBitAlone(Answers answers, int number, int keeps) {
    ControlFile x = new ControlFile();
    for (int bit = 0; bit < 32; bit++) {
      answers.due("write", x.access(number, Registers.WRITE, 1 << bit), 0);
      answers.due(Registers.hex(number) + " with bit " + bit + " written",
          x.control(number), 1 << bit & keeps);
      x.access(number, Registers.WRITE, ~(1 << bit));
      answers.due(Registers.hex(number) + " with all but bit " + bit + " written",
          x.control(number), ~(1 << bit) & keeps);
    }
  }

  private static void everyKind(Answers answers, int number, int keeps) {
    ControlFile x = new ControlFile();
    int told = 0;
    int[] values = {0x55555555, 0, -1, 0x0f0f0f0f, 0x80000001, 0x666};
    for (int round = 0; round < values.length * 4; round++) {
      int kind = round * 7 % 4;
      int value = values[round % values.length];
      int next = kind == 0 ? told : kind == 1 ? value : kind == 2 ? told | value : told & ~value;
      answers.due("access", x.access(number, kind, value), 0);
      answers.due("old() of " + Registers.hex(number), x.old(), told);
      told = kind == 0 ? told : next & keeps;
      answers.due(Registers.hex(number) + " after kind " + kind + " of " + value,
          x.control(number), told);
    }
  }

  private static void noOtherIsTouched(Answers answers, int number) {
    ControlFile x = new ControlFile();
    x.access(number, Registers.WRITE, -1);
    boolean pair = number == Registers.HIP || number == Registers.HVIP;
    answers.due("used() after a write of " + Registers.hex(number), x.used(), pair ? 2 : 1);
    x.access(number, Registers.CLEAR, -1);
    answers.due("used() after it is cleared", x.used(), 0);
  }

  private static void sNumbersInVs(Answers answers) {
    for (int i = 0; i < Registers.OF_S.length; i++) {
      int number = Registers.OF_S[i];
      ControlFile x = new ControlFile();
      x.access(Registers.HIDELEG, Registers.WRITE, -1);
      x.access(Registers.OF_VS[i], Registers.WRITE, 0x202);
      int before = x.control(Registers.OF_VS[i]);
      x.mode(Registers.VS);
      answers.due("read", x.access(number, Registers.READ, 0), 0);
      answers.due("old() of " + Registers.hex(number) + " in VS", x.old(), before);
      answers.due("clear", x.access(number, Registers.CLEAR, -1), 0);
      answers.due("the VS one of " + Registers.hex(number), x.control(Registers.OF_VS[i]), 0);
      answers.due("set", x.access(number, Registers.SET, -1), 0);
      answers.due("there is a bit in it", x.control(Registers.OF_VS[i]) != 0, true);
      answers.due("the S one of " + Registers.hex(number), x.control(number), 0);
    }
  }

  private static void ipKeepsTimerAndLine(Answers answers) {
    ControlFile x = new ControlFile();
    x.alarm(0);
    x.line(true);
    x.access(Registers.IP, Registers.WRITE, 0);
    answers.due("IP", x.control(Registers.IP), 0x220);
    x.access(Registers.IP, Registers.SET, 2);
    answers.due("IP", x.control(Registers.IP), 0x222);
    x.access(Registers.IP, Registers.CLEAR, -1);
    answers.due("old()", x.old(), 0x222);
    answers.due("IP", x.control(Registers.IP), 0x220);
    x.access(Registers.IP, Registers.SET, 0);
    x.alarm(-1);
    x.line(false);
    answers.due("IP keeps nothing of timer and line", x.control(Registers.IP), 0);
  }

  private static void hipWritesBitTwoOfHvip(Answers answers) {
    for (int hvip : new int[] {0, 0x4, 0x40, 0x400, 0x444, 0x440}) {
      for (int value : new int[] {0, 4, -1, ~4, 0x440}) {
        ControlFile x = new ControlFile();
        x.access(Registers.HVIP, Registers.WRITE, hvip);
        x.access(Registers.HIP, Registers.WRITE, value);
        answers.due("old()", x.old(), hvip);
        answers.due("HVIP", x.control(Registers.HVIP), hvip & ~4 | value & 4);
        answers.due("HIP", x.control(Registers.HIP), hvip & ~4 | value & 4);
      }
    }
  }

  private static void vsIpWritesBitTwoOfHvip(Answers answers) {
    for (int hideleg : new int[] {0, 0x4, 0x40, 0x440, 0x444}) {
      for (int hvip : new int[] {0, 0x4, 0x440, 0x444}) {
        for (int value : new int[] {0, 2, 4, -1, ~2}) {
          ControlFile x = new ControlFile();
          x.access(Registers.HIDELEG, Registers.WRITE, hideleg);
          x.access(Registers.HVIP, Registers.WRITE, hvip);
          x.access(Registers.VSIP, Registers.WRITE, value);
          int moved = hideleg & 4;
          int next = hvip & ~moved | value << 1 & moved;
          answers.due("old() of VS IP", x.old(), (hvip & hideleg) >> 1);
          answers.due("HVIP", x.control(Registers.HVIP), next);
          answers.due("VS IP", x.control(Registers.VSIP), (next & hideleg) >> 1);
          answers.due("IP", x.control(Registers.IP), 0);
        }
      }
    }
  }

  private static void vsIeWritesHie(Answers answers) {
    for (int hideleg : new int[] {0, 0x4, 0x40, 0x400, 0x440, 0x444}) {
      for (int hie : new int[] {0, 0x4, 0x40, 0x400, 0x444}) {
        for (int value : new int[] {0, 0x2, 0x20, 0x200, 0x222, 0x444, -1}) {
          ControlFile x = new ControlFile();
          x.access(Registers.HIDELEG, Registers.WRITE, hideleg);
          x.access(Registers.HIE, Registers.WRITE, hie);
          x.access(Registers.VSIE, Registers.WRITE, value);
          int next = hie & ~hideleg | value << 1 & hideleg;
          answers.due("old() of VS IE", x.old(), (hie & hideleg) >> 1);
          answers.due("HIE", x.control(Registers.HIE), next);
          answers.due("VS IE", x.control(Registers.VSIE), (next & hideleg) >> 1);
          answers.due("IE", x.control(Registers.IE), 0);
        }
      }
    }
  }

  private static void vsIeSetsAndClears(Answers answers) {
    ControlFile x = new ControlFile();
    x.access(Registers.HIDELEG, Registers.WRITE, 0x404);
    x.access(Registers.HIE, Registers.WRITE, 0x44);
    x.mode(Registers.VS);
    x.access(Registers.IE, Registers.SET, 0x220);
    answers.due("old()", x.old(), 0x2);
    answers.due("HIE", x.control(Registers.HIE), 0x444);
    x.access(Registers.IE, Registers.CLEAR, 0x22);
    answers.due("old()", x.old(), 0x202);
    answers.due("HIE", x.control(Registers.HIE), 0x440);
  }
}
