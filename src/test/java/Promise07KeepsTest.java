/** Promise 7: each bit that a write keeps, and each that it does not. */
public final class Promise07KeepsTest {
  private static final int H_BITS = Registers.bits(2, 6, 10);

  public static void main(String[] args) {
    Answers answers = new Answers();
    keeps(answers, "STATUS (bits 1 IE, 5 PIE, 8 PP, 18 SUM, 19 MXR) the bits named",
        Registers.bits(1, 5, 8, 18, 19), Registers.STATUS, Registers.VSSTATUS);
    keeps(answers, "HSTATUS (bits 6 GVA, 7 SPV, 8 SPVP, 9 HU, 20 VTVM, 21 VTW, 22 VTSR)",
        Registers.bits(6, 7, 8, 9, 20, 21, 22), Registers.HSTATUS);
    keeps(answers, "S IE bits 1, 5, 9", Registers.bits(1, 5, 9), Registers.IE);
    keeps(answers, "TVEC all but bit 1", ~Registers.bits(1), Registers.TVEC, Registers.VSTVEC);
    keeps(answers, "EPC all but bits 0, 1", ~Registers.bits(0, 1), Registers.EPC,
        Registers.VSEPC);
    keeps(answers, "ATP bits 31 and 21 .. 0", through(21, 0) | 1 << 31, Registers.ATP,
        Registers.VSATP);
    keeps(answers, "HGATP 31 and 21 .. 2", through(21, 2) | 1 << 31, Registers.HGATP);
    keeps(answers, "HEDELEG bits 0 to 8, 12, 13, 15",
        through(8, 0) | Registers.bits(12, 13, 15), Registers.HEDELEG);
    keeps(answers, "HIDELEG, HIE, HVIP bits 2, 6, 10", H_BITS, Registers.HIDELEG, Registers.HIE,
        Registers.HVIP);
    keeps(answers, "HIP bit 2, which is that of HVIP", Registers.bits(2), Registers.HIP);
    keeps(answers, "S IP bit 1", Registers.bits(1), Registers.IP);
    keeps(answers, "others all", -1, Registers.SCRATCH, Registers.CAUSE, Registers.TVAL,
        Registers.VSSCRATCH, Registers.VSCAUSE, Registers.VSTVAL, Registers.HTVAL,
        Registers.HTINST);
    answers.end();
  }

  private static int through(int high, int low) {
    int bits = 0;
    for (int bit = low; bit <= high; bit++) {
      bits |= 1 << bit;
    }
    return bits;
  }

  private static void keeps(Answers answers, String sentence, int bits, int... numbers) {
    answers.sentence(sentence);
    for (int number : numbers) {
      eachBitAlone(answers, number, bits);
      eachBitMissing(answers, number, bits);
      whatIsNotKeptIsZero(answers, number, bits);
      everyKind(answers, number, bits);
      noOtherIsTouched(answers, number);
    }
  }

  private static void eachBitAlone(Answers answers, int number, int keeps) {
    for (int bit = 0; bit < 32; bit++) {
      int value = 1 << bit;
      ControlFile x = new ControlFile();
      answers.due("a write", x.access(number, Registers.WRITE, value), 0);
      answers.due(Registers.hex(number) + " with bit " + bit + " written",
          x.control(number), value & keeps);
      answers.due("clear", x.access(number, Registers.CLEAR, value), 0);
      answers.due(Registers.hex(number) + " with bit " + bit + " cleared", x.control(number), 0);
      answers.due("set", x.access(number, Registers.SET, value), 0);
      answers.due(Registers.hex(number) + " with bit " + bit + " set",
          x.control(number), value & keeps);
    }
  }

  private static void eachBitMissing(Answers answers, int number, int keeps) {
    ControlFile x = new ControlFile();
    for (int bit = 0; bit < 32; bit++) {
      int value = ~(1 << bit);
      x.access(number, Registers.WRITE, -1);
      x.access(number, Registers.WRITE, value);
      answers.due(Registers.hex(number) + " with all but bit " + bit + " written",
          x.control(number), value & keeps);
    }
  }

  /** Of a register that was full; HIP and S IP are left out, for they tell bits of others. */
  private static void whatIsNotKeptIsZero(Answers answers, int number, int keeps) {
    if (number == Registers.HIP || number == Registers.IP) {
      return;
    }
    for (int value : new int[] {0, ~keeps, 0x5a5a5a5a, 0xa5a5a5a5}) {
      ControlFile x = State.full(Registers.S);
      x.access(number, Registers.WRITE, value);
      answers.due("full " + Registers.hex(number) + " after " + Registers.hex(value),
          x.control(number), value & keeps);
    }
  }

  private static void everyKind(Answers answers, int number, int keeps) {
    ControlFile x = new ControlFile();
    int told = 0;
    int[] values = {0x55555555, 0, -1, 0x0f0f0f0f, 0x80000001, 0x666};
    for (int round = 0; round < values.length * 4; round++) {
      int kind = round * 7 % 4;
      int value = values[round % values.length];
      int next = kind == 0 ? told : kind == 1 ? value : kind == 2 ? told | value : told & ~value;
      answers.due("access", x.access(number, kind, value), 0);
      answers.due("old() of " + Registers.hex(number), x.old(), told);
      told = kind == 0 ? told : next & keeps;
      answers.due(Registers.hex(number) + " after kind " + kind + " of " + value,
          x.control(number), told);
    }
  }

  private static void noOtherIsTouched(Answers answers, int number) {
    ControlFile x = new ControlFile();
    x.access(number, Registers.WRITE, -1);
    boolean pair = number == Registers.HIP || number == Registers.HVIP;
    answers.due("used() after a write of " + Registers.hex(number), x.used(), pair ? 2 : 1);
    x.access(number, Registers.CLEAR, -1);
    answers.due("used() after it is cleared", x.used(), 0);
  }
}
