/** Promise 9: control tells a register whatever the mode, an S number the S one; 0 if there is none. */
public final class Promise09ControlTest {
  public static void main(String[] args) {
    Answers answers = new Answers();
    everyModeTellsTheSame(answers);
    thereIsNone(answers);
    toldOfOthers(answers);
    answers.end();
  }

  private static void everyModeTellsTheSame(Answers answers) {
    ControlFile x = new ControlFile();
    x.time(0x500000006L);
    int[] plain = {
      Registers.SCRATCH, Registers.CAUSE, Registers.TVAL, Registers.VSSCRATCH,
      Registers.VSCAUSE, Registers.VSTVAL, Registers.HTVAL, Registers.HTINST
    };
    for (int i = 0; i < plain.length; i++) {
      x.access(plain[i], Registers.WRITE, -100 - i);
    }
    for (int mode = Registers.U; mode <= Registers.VS; mode++) {
      x.mode(mode);
      for (int i = 0; i < plain.length; i++) {
        answers.due("control " + Registers.hex(plain[i]) + " in mode " + mode,
            x.control(plain[i]), -100 - i);
      }
      answers.due("TIME in mode " + mode, x.control(Registers.TIME), 6);
      answers.due("its upper half in mode " + mode, x.control(Registers.TIMEH), 5);
    }
  }

  private static void thereIsNone(Answers answers) {
    // An object is good for 512 calls, so each one is asked for a page of numbers only.
    for (int page = -0x1000; page < 0x3000; page += 0x100) {
      ControlFile x = full();
      for (int number = page; number < page + 0x100; number++) {
        answers.due("control " + Registers.hex(number) + " tells something",
            x.control(number) != 0, Registers.exists(number));
      }
    }
    ControlFile x = full();
    for (int number : new int[] {Integer.MAX_VALUE, Integer.MIN_VALUE, 0x80000100, 0x10100}) {
      answers.due("control " + Registers.hex(number), x.control(number), 0);
    }
  }

  private static ControlFile full() {
    ControlFile x = new ControlFile();
    x.time(Long.MAX_VALUE);
    for (int[] numbers : new int[][] {Registers.OF_S, Registers.OF_H, Registers.OF_VS}) {
      for (int number : numbers) {
        x.access(number, Registers.WRITE, -1);
      }
    }
    return x;
  }

  private static void toldOfOthers(Answers answers) {
    ControlFile x = new ControlFile();
    for (int hideleg : new int[] {0, 0x4, 0x40, 0x400, 0x444}) {
      for (int bits : new int[] {0, 0x4, 0x40, 0x400, 0x444}) {
        x.begin();
        x.access(Registers.HIDELEG, Registers.WRITE, hideleg);
        x.access(Registers.HVIP, Registers.WRITE, bits);
        x.access(Registers.HIE, Registers.WRITE, 0x444 ^ bits);
        answers.due("HIP", x.control(Registers.HIP), bits);
        answers.due("VS IP", x.control(Registers.VSIP), (bits & hideleg) >> 1);
        answers.due("VS IE", x.control(Registers.VSIE), (~bits & hideleg) >> 1);
      }
    }
  }
}
