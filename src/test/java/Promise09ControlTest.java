/** Promise 9: control, sentence by sentence, with what registers tell of others. */
public final class Promise09ControlTest {
  private static final int[] H_SETS = {0, 0x4, 0x40, 0x400, 0x44, 0x404, 0x440, 0x444};

  public static void main(String[] args) {
    Answers answers = new Answers();
    anSNumber(answers);
    whateverTheMode(answers);
    thereIsNone(answers);
    ipTells(answers);
    hipTells(answers);
    vsIpTells(answers);
    vsIeTells(answers);
    itChangesNothing(answers);
    answers.end();
  }

  private static void anSNumber(Answers answers) {
    answers.sentence("an S number: the S one");
    for (int i = 0; i < Registers.OF_S.length; i++) {
      ControlFile x = new ControlFile();
      x.access(Registers.HIDELEG, Registers.WRITE, -1);
      x.access(Registers.OF_S[i], Registers.WRITE, -1);
      int told = x.control(Registers.OF_S[i]);
      answers.due("it tells something", told != 0, true);
      x.mode(Registers.VS);
      answers.due("the S one in VS", x.control(Registers.OF_S[i]), told);
      answers.due("the VS one in VS", x.control(Registers.OF_VS[i]), 0);
      x.access(Registers.OF_S[i], Registers.SET, 0x202);
      answers.due("the S one in VS, the VS one written", x.control(Registers.OF_S[i]), told);
      answers.due("the VS one written", x.control(Registers.OF_VS[i]) != 0, true);
    }
  }

  private static void whateverTheMode(Answers answers) {
    answers.sentence("whatever the mode");
    ControlFile x = new ControlFile();
    x.time(0x500000006L);
    int[] plain = {
      Registers.SCRATCH, Registers.CAUSE, Registers.TVAL, Registers.VSSCRATCH,
      Registers.VSCAUSE, Registers.VSTVAL, Registers.HTVAL, Registers.HTINST
    };
    for (int i = 0; i < plain.length; i++) {
      x.access(plain[i], Registers.WRITE, -100 - i);
    }
    for (int mode : Registers.MODES) {
      x.mode(mode);
      for (int i = 0; i < plain.length; i++) {
        answers.due("control " + Registers.hex(plain[i]) + " in mode " + mode,
            x.control(plain[i]), -100 - i);
      }
      answers.due("TIME in mode " + mode, x.control(Registers.TIME), 6);
      answers.due("its upper half in mode " + mode, x.control(Registers.TIMEH), 5);
    }
    ControlFile full = State.full(Registers.S);
    for (int number : Registers.ALL) {
      full.mode(Registers.S);
      int told = full.control(number);
      for (int mode : Registers.MODES) {
        full.mode(mode);
        answers.due("control " + Registers.hex(number) + " in mode " + mode,
            full.control(number), told);
      }
    }
  }

  private static void thereIsNone(Answers answers) {
    answers.sentence("0 if there is none");
    for (int mode : Registers.MODES) {
      // An object is good for 512 calls, so each one is asked for a page of numbers only.
      for (int page = -0x1000; page < 0x3000; page += 0x100) {
        ControlFile x = State.full(mode);
        for (int number = page; number < page + 0x100; number++) {
          answers.due("control " + Registers.hex(number) + " tells something",
              x.control(number) != 0, Registers.exists(number));
        }
      }
      ControlFile x = State.full(mode);
      for (int number : Registers.STRANGE) {
        answers.due("control " + Registers.hex(number), x.control(number), 0);
      }
    }
  }

  private static void ipTells(Answers answers) {
    answers.sentence("S IP tells bit 1 as written, 5: TIME is not below the ALARM, 9: the LINE");
    for (int set = 0; set < 8; set++) {
      ControlFile x = new ControlFile();
      x.access(Registers.IP, Registers.WRITE, (set & 1) << 1);
      x.alarm((set & 2) != 0 ? 8 : 9);
      x.time(8);
      x.line((set & 4) != 0);
      x.access(Registers.HVIP, Registers.WRITE, ~set);
      int want = (set & 1) * 0x2 + (set >> 1 & 1) * 0x20 + (set >> 2 & 1) * 0x200;
      answers.due("IP", x.control(Registers.IP), want);
    }
  }

  private static ControlFile with(int hideleg, int hvip, int hie) {
    ControlFile x = new ControlFile();
    x.access(Registers.HIDELEG, Registers.WRITE, hideleg);
    x.access(Registers.HVIP, Registers.WRITE, hvip);
    x.access(Registers.HIE, Registers.WRITE, hie);
    return x;
  }

  private static void hipTells(Answers answers) {
    answers.sentence("HIP tells HVIP");
    for (int hideleg : H_SETS) {
      for (int hvip : H_SETS) {
        ControlFile x = with(hideleg, hvip, 0x444 ^ hvip);
        x.line(true);
        x.alarm(0);
        answers.due("HIP", x.control(Registers.HIP), hvip);
      }
    }
  }

  private static void vsIpTells(Answers answers) {
    answers.sentence("VS IP tells bits 2, 6, 10 of HVIP and HIDELEG, one place lower");
    for (int hideleg : H_SETS) {
      for (int hvip : H_SETS) {
        ControlFile x = with(hideleg, hvip, 0x444 ^ hvip);
        x.line(true);
        x.alarm(0);
        answers.due("VS IP", x.control(Registers.VSIP), (hvip & hideleg) / 2);
        x.access(Registers.HIDELEG, Registers.WRITE, 0);
        answers.due("VS IP without HIDELEG", x.control(Registers.VSIP), 0);
        x.access(Registers.HIDELEG, Registers.WRITE, -1);
        answers.due("VS IP with all of HIDELEG", x.control(Registers.VSIP), hvip / 2);
      }
    }
  }

  private static void vsIeTells(Answers answers) {
    answers.sentence("VS IE tells HIE and HIDELEG one place lower");
    for (int hideleg : H_SETS) {
      for (int hie : H_SETS) {
        ControlFile x = with(hideleg, 0x444 ^ hie, hie);
        x.access(Registers.IE, Registers.WRITE, -1);
        answers.due("VS IE", x.control(Registers.VSIE), (hie & hideleg) / 2);
        x.access(Registers.HIDELEG, Registers.WRITE, 0);
        answers.due("VS IE without HIDELEG", x.control(Registers.VSIE), 0);
        x.access(Registers.HIDELEG, Registers.WRITE, -1);
        answers.due("VS IE with all of HIDELEG", x.control(Registers.VSIE), hie / 2);
      }
    }
  }

  private static void itChangesNothing(Answers answers) {
    answers.sentence("What a register of this number tells");
    ControlFile x = State.full(Registers.VU);
    String before = State.of(x);
    for (int number : Registers.joined(Registers.ALL, Registers.STRANGE)) {
      x.control(number);
    }
    answers.due("all after control of every number", State.of(x), before);
  }
}
