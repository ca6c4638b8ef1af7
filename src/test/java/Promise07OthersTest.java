/** Promise 7: writes of registers that tell of others, and S numbers in VS. */
public final class Promise07OthersTest {
  private static final int[] H_SETS = {0, 0x4, 0x40, 0x400, 0x44, 0x404, 0x440, 0x444};

  public static void main(String[] args) {
    Answers answers = new Answers();
    ipIsAsItWas(answers);
    hipIsAsItWas(answers);
    vsIpPutsBitTwoOfHvip(answers);
    vsIePutsHie(answers);
    vsIeSetsAndClears(answers);
    sNumbersInVs(answers);
    sNumbersElsewhere(answers);
    noOtherRegister(answers);
    answers.end();
  }

  private static void ipIsAsItWas(Answers answers) {
    answers.sentence("What is not kept is 0 (of IP: as it was)");
    for (int set = 0; set < 8; set++) {
      int told = (set & 1) << 1 | (set >> 1 & 1) << 5 | (set >> 2 & 1) << 9;
      for (int bit = -1; bit < 32; bit++) {
        int value = bit < 0 ? 0 : 1 << bit;
        for (int kind : new int[] {Registers.WRITE, Registers.SET, Registers.CLEAR}) {
          ControlFile x = pendingIs(told);
          x.access(Registers.IP, kind, value);
          answers.due("old()", x.old(), told);
          int next = kind == 1 ? value : kind == 2 ? told | value : told & ~value;
          answers.due("IP " + Registers.hex(told) + " after "
              + Registers.call(Registers.IP, kind, value),
              x.control(Registers.IP), told & ~2 | next & 2);
          x.line(false);
          x.alarm(-1);
          answers.due("IP without line and alarm", x.control(Registers.IP), next & 2);
        }
      }
    }
  }

  private static ControlFile pendingIs(int told) {
    ControlFile x = new ControlFile();
    x.access(Registers.IP, Registers.WRITE, told & 2);
    x.alarm((told & 0x20) != 0 ? 0 : 1);
    x.line((told & 0x200) != 0);
    return x;
  }

  private static void hipIsAsItWas(Answers answers) {
    answers.sentence("HIP bit 2, which is that of HVIP (what is not kept: as it was)");
    for (int hvip : H_SETS) {
      for (int bit = -1; bit < 32; bit++) {
        int value = bit < 0 ? 0 : 1 << bit;
        hipWritten(answers, hvip, value);
        hipWritten(answers, hvip, ~value);
      }
    }
  }

  private static void hipWritten(Answers answers, int hvip, int value) {
    ControlFile x = new ControlFile();
    x.access(Registers.HVIP, Registers.WRITE, hvip);
    x.access(Registers.HIP, Registers.WRITE, value);
    answers.due("old() of HIP", x.old(), hvip);
    answers.due("HVIP", x.control(Registers.HVIP), hvip & ~4 | value & 4);
    answers.due("HIP", x.control(Registers.HIP), hvip & ~4 | value & 4);
    x.access(Registers.HIP, Registers.CLEAR, -1);
    answers.due("HVIP after a clear of HIP", x.control(Registers.HVIP), hvip & ~4);
    x.access(Registers.HIP, Registers.SET, -1);
    answers.due("HVIP after a set of HIP", x.control(Registers.HVIP), hvip | 4);
  }

  private static void vsIpPutsBitTwoOfHvip(Answers answers) {
    answers.sentence("a write of it puts bit 1 to bit 2 of HVIP, if that is in HIDELEG");
    for (int hideleg : H_SETS) {
      for (int hvip : H_SETS) {
        for (int bit = -1; bit < 32; bit++) {
          int value = bit < 0 ? 0 : 1 << bit;
          vsIpWritten(answers, hideleg, hvip, value);
          vsIpWritten(answers, hideleg, hvip, ~value);
        }
      }
    }
  }

  private static void vsIpWritten(Answers answers, int hideleg, int hvip, int value) {
    ControlFile x = new ControlFile();
    x.access(Registers.HIDELEG, Registers.WRITE, hideleg);
    x.access(Registers.HVIP, Registers.WRITE, hvip);
    x.access(Registers.VSIP, Registers.WRITE, value);
    boolean moves = (hideleg & 4) != 0;
    int next = !moves ? hvip : (value & 2) != 0 ? hvip | 4 : hvip & ~4;
    answers.due("old() of VS IP", x.old(), (hvip & hideleg) >> 1);
    answers.due("HVIP", x.control(Registers.HVIP), next);
    answers.due("VS IP", x.control(Registers.VSIP), (next & hideleg) >> 1);
    answers.due("IP", x.control(Registers.IP), 0);
    answers.due("HIDELEG", x.control(Registers.HIDELEG), hideleg);
  }

  private static void vsIePutsHie(Answers answers) {
    answers.sentence(
        "a write puts bits 1, 5, 9 one place higher to HIE, those that are in HIDELEG");
    for (int hideleg : H_SETS) {
      for (int hie : H_SETS) {
        for (int bit = -1; bit < 32; bit++) {
          int value = bit < 0 ? 0 : 1 << bit;
          vsIeWritten(answers, hideleg, hie, value);
          vsIeWritten(answers, hideleg, hie, ~value);
        }
      }
    }
  }

  private static void vsIeWritten(Answers answers, int hideleg, int hie, int value) {
    ControlFile x = new ControlFile();
    x.access(Registers.HIDELEG, Registers.WRITE, hideleg);
    x.access(Registers.HIE, Registers.WRITE, hie);
    x.access(Registers.VSIE, Registers.WRITE, value);
    int next = hie;
    for (int place : new int[] {1, 5, 9}) {
      int above = 1 << place + 1;
      if ((hideleg & above) != 0) {
        next = (value >> place & 1) != 0 ? next | above : next & ~above;
      }
    }
    answers.due("old() of VS IE", x.old(), (hie & hideleg) >> 1);
    answers.due("HIE", x.control(Registers.HIE), next);
    answers.due("VS IE", x.control(Registers.VSIE), (next & hideleg) >> 1);
    answers.due("IE", x.control(Registers.IE), 0);
    answers.due("HIDELEG", x.control(Registers.HIDELEG), hideleg);
  }

  private static void vsIeSetsAndClears(Answers answers) {
    answers.sentence("VS IE tells HIE and HIDELEG one place lower (bits set and cleared)");
    ControlFile x = new ControlFile();
    x.access(Registers.HIDELEG, Registers.WRITE, 0x404);
    x.access(Registers.HIE, Registers.WRITE, 0x44);
    x.mode(Registers.VS);
    x.access(Registers.IE, Registers.SET, 0x220);
    answers.due("old()", x.old(), 0x2);
    answers.due("HIE", x.control(Registers.HIE), 0x444);
    x.access(Registers.IE, Registers.CLEAR, 0x22);
    answers.due("old()", x.old(), 0x202);
    answers.due("HIE", x.control(Registers.HIE), 0x440);
  }

  /** An access by the S number in VS is what one by the VS number in S is. */
  private static void sNumbersInVs(Answers answers) {
    answers.sentence("In VS an S number means the VS one of its kind");
    for (int i = 0; i < Registers.OF_S.length; i++) {
      for (int kind : Registers.KINDS) {
        for (int bit = -1; bit < 32; bit++) {
          int value = bit < 0 ? -1 : 1 << bit;
          ControlFile inVs = prepared();
          inVs.mode(Registers.VS);
          answers.due("in VS " + Registers.call(Registers.OF_S[i], kind, value),
              inVs.access(Registers.OF_S[i], kind, value), 0);
          inVs.mode(Registers.S);
          ControlFile inS = prepared();
          inS.access(Registers.OF_VS[i], kind, value);
          answers.due("all after " + Registers.call(Registers.OF_S[i], kind, value) + " in VS",
              State.of(inVs), State.of(inS));
        }
      }
    }
  }

  /** S and VS registers hold different bits, so that it is seen which one was used. */
  private static ControlFile prepared() {
    ControlFile x = new ControlFile();
    x.access(Registers.HIDELEG, Registers.WRITE, 0x44);
    x.access(Registers.HVIP, Registers.WRITE, 0x404);
    x.access(Registers.HIE, Registers.WRITE, 0x440);
    for (int i = 0; i < Registers.OF_S.length; i++) {
      x.access(Registers.OF_S[i], Registers.WRITE, 0x11111130 + (i << 16));
      if (Registers.OF_VS[i] != Registers.VSIE && Registers.OF_VS[i] != Registers.VSIP) {
        x.access(Registers.OF_VS[i], Registers.WRITE, 0x22222302 + (i << 16));
      }
    }
    return x;
  }

  private static void sNumbersElsewhere(Answers answers) {
    answers.sentence("In VS an S number means the VS one (in S it is the S one)");
    for (int i = 0; i < Registers.OF_S.length; i++) {
      ControlFile x = new ControlFile();
      x.access(Registers.HIDELEG, Registers.WRITE, -1);
      x.access(Registers.OF_S[i], Registers.WRITE, -1);
      answers.due("the S one", x.control(Registers.OF_S[i]) != 0, true);
      answers.due("the VS one", x.control(Registers.OF_VS[i]), 0);
      x.access(Registers.OF_S[i], Registers.WRITE, 0);
      x.access(Registers.OF_VS[i], Registers.WRITE, -1);
      answers.due("the S one", x.control(Registers.OF_S[i]), 0);
      answers.due("the VS one", x.control(Registers.OF_VS[i]) != 0, true);
    }
  }

  /** Of a write, only the register itself and those that tell of it may change. */
  private static void noOtherRegister(Answers answers) {
    answers.sentence("What a write keeps (no other register is written)");
    for (int number : Registers.WRITABLE) {
      for (int value : new int[] {0, -1, 0x5a5a5a5a, 0xa5a5a5a5, 2, ~2}) {
        onlyItselfChanges(answers, new ControlFile(), number, value);
        onlyItselfChanges(answers, prepared(), number, value);
        onlyItselfChanges(answers, delegatedButEmpty(), number, value);
        onlyItselfChanges(answers, State.full(Registers.S), number, value);
      }
    }
  }

  private static ControlFile delegatedButEmpty() {
    ControlFile x = new ControlFile();
    x.access(Registers.HIDELEG, Registers.WRITE, -1);
    return x;
  }

  private static void onlyItselfChanges(Answers answers, ControlFile x, int number, int value) {
    int[] before = new int[Registers.ALL.length];
    for (int i = 0; i < before.length; i++) {
      before[i] = x.control(Registers.ALL[i]);
    }
    x.access(number, Registers.WRITE, value);
    for (int i = 0; i < before.length; i++) {
      int other = Registers.ALL[i];
      if (other != number && !Registers.isIn(toldWith(number), other)) {
        answers.due(Registers.hex(other) + " after "
            + Registers.call(number, Registers.WRITE, value), x.control(other), before[i]);
      }
    }
  }

  private static int[] toldWith(int number) {
    switch (number) {
      case Registers.HVIP:
      case Registers.HIP:
      case Registers.VSIP:
        return new int[] {Registers.HVIP, Registers.HIP, Registers.VSIP};
      case Registers.HIE:
      case Registers.VSIE:
        return new int[] {Registers.HIE, Registers.VSIE};
      case Registers.HIDELEG:
        return new int[] {Registers.VSIE, Registers.VSIP};
      default:
        return new int[0];
    }
  }
}
