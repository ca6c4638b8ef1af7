/** Promise 11: due, for every set of pending, enabled and delegated bits in every mode. */
public final class Promise11DueTest {
  private static final int[] S_BITS = {9, 1, 5};
  private static final int[] H_BITS = {10, 2, 6};

  public static void main(String[] args) {
    Answers answers = new Answers();
    none(answers);
    dueForS(answers);
    orderForS(answers);
    inEachModeForS(answers);
    orderForVs(answers);
    inEachModeForVs(answers);
    ofHvip(answers);
    otherwise(answers);
    asItIsNow(answers);
    itChangesNothing(answers);
    answers.end();
  }

  private static int spread(int[] places, int set) {
    int bits = 0;
    for (int i = 0; i < places.length; i++) {
      if ((set >> i & 1) != 0) {
        bits |= 1 << places[i];
      }
    }
    return bits;
  }

  private static int first(int[] places, int set) {
    for (int i = 0; i < places.length; i++) {
      if ((set >> i & 1) != 0) {
        return places[i];
      }
    }
    return ControlFile.BAD;
  }

  /** Bit 0 of open: IE of STATUS; bit 1: IE of VS STATUS; every other STATUS bit is the opposite. */
  private static void openTo(ControlFile x, int open) {
    x.access(Registers.STATUS, Registers.WRITE, (open & 1) != 0 ? 2 : ~2);
    x.access(Registers.VSSTATUS, Registers.WRITE, (open & 2) != 0 ? 2 : ~2);
  }

  private static void pend(ControlFile x, int set) {
    x.line((set & 1) != 0);
    x.access(Registers.IP, Registers.WRITE, (set & 2) != 0 ? 2 : 0);
    x.alarm((set & 4) != 0 ? 0 : -1);
  }

  private static ControlFile with(int open, int hvip, int hie, int hideleg) {
    ControlFile x = new ControlFile();
    openTo(x, open);
    x.access(Registers.HVIP, Registers.WRITE, spread(H_BITS, hvip));
    x.access(Registers.HIE, Registers.WRITE, spread(H_BITS, hie));
    x.access(Registers.HIDELEG, Registers.WRITE, spread(H_BITS, hideleg));
    return x;
  }

  private static boolean isOpenForS(int mode, int open) {
    return mode != Registers.S || (open & 1) != 0;
  }

  private static boolean isOpenForVs(int mode, int open) {
    return mode == Registers.VU || (mode == Registers.VS && (open & 2) != 0);
  }

  /** What is due of these sets: own for S, active of HVIP and HIE, and what is delegated. */
  private static int want(int mode, int open, int own, int active, int delegated) {
    int forS = first(S_BITS, own);
    if (forS == ControlFile.BAD) {
      forS = first(H_BITS, active & ~delegated);
    }
    if (forS != ControlFile.BAD && isOpenForS(mode, open)) {
      return forS;
    }
    int forVs = first(H_BITS, active & delegated);
    if (forVs != ControlFile.BAD && isOpenForVs(mode, open)) {
      return 100 + forVs - 1;
    }
    return ControlFile.BAD;
  }

  private static void none(Answers answers) {
    answers.sentence("BAD: none");
    for (int mode : Registers.MODES) {
      for (int open = 0; open < 4; open++) {
        ControlFile enabled = with(open, 0, 7, 5);
        enabled.access(Registers.IE, Registers.WRITE, -1);
        enabled.mode(mode);
        answers.due("all enabled, none pending", enabled.due(), ControlFile.BAD);
        ControlFile pending = with(open, 7, 0, 5);
        pend(pending, 7);
        pending.mode(mode);
        answers.due("all pending, none enabled", pending.due(), ControlFile.BAD);
      }
    }
    ControlFile x = State.full(Registers.S);
    x.access(Registers.STATUS, Registers.CLEAR, 2);
    answers.due("in S without IE of STATUS", x.due(), ControlFile.BAD);
  }

  private static void dueForS(Answers answers) {
    answers.sentence("For S: IP and IE (bits 9, 1, 5)");
    for (int mode : Registers.MODES) {
      for (int set = 0; set < 256; set++) {
        int pending = set & 7;
        int enabled = set >> 3 & 7;
        int open = set >> 6;
        ControlFile x = new ControlFile();
        openTo(x, open);
        pend(x, pending);
        x.access(Registers.IE, Registers.WRITE, spread(S_BITS, enabled));
        x.mode(mode);
        answers.due("mode " + mode + " open " + open + " IP " + pending + " IE " + enabled,
            x.due(), want(mode, open, pending & enabled, 0, 0));
      }
    }
  }

  private static void orderForS(Answers answers) {
    answers.sentence("the first in this order: 9, 1, 5, 10, 2, 6");
    ControlFile x = with(1, 7, 7, 0);
    pend(x, 7);
    x.access(Registers.IE, Registers.WRITE, -1);
    answers.due("all", x.due(), 9);
    x.line(false);
    answers.due("without 9", x.due(), 1);
    x.access(Registers.IP, Registers.CLEAR, 2);
    answers.due("without 1", x.due(), 5);
    x.alarm(-1);
    answers.due("without 5", x.due(), 10);
    x.access(Registers.HVIP, Registers.CLEAR, 0x400);
    answers.due("without 10", x.due(), 2);
    x.access(Registers.HVIP, Registers.CLEAR, 0x4);
    answers.due("without 2", x.due(), 6);
    x.access(Registers.HVIP, Registers.CLEAR, 0x40);
    answers.due("without 6", x.due(), ControlFile.BAD);
  }

  /** Each of the six alone, in each mode, with IE of STATUS and without it. */
  private static void inEachModeForS(Answers answers) {
    answers.sentence("due in U, VU, VS, and in S with IE of STATUS");
    for (int i = 0; i < 6; i++) {
      for (int open = 0; open < 4; open++) {
        int ofH = i < 3 ? 0 : 1 << i - 3;
        ControlFile x = with(open, ofH, ofH, 0);
        pend(x, i < 3 ? 1 << i : 0);
        x.access(Registers.IE, Registers.WRITE, -1);
        int number = i < 3 ? S_BITS[i] : H_BITS[i - 3];
        for (int mode : new int[] {Registers.U, Registers.VU, Registers.VS}) {
          x.mode(mode);
          answers.due(number + " in mode " + mode, x.due(), number);
        }
        x.mode(Registers.S);
        answers.due(number + " in S with STATUS " + Registers.hex(x.control(Registers.STATUS)),
            x.due(), (open & 1) != 0 ? number : ControlFile.BAD);
      }
    }
  }

  private static void orderForVs(Answers answers) {
    answers.sentence("the first of 10, 2, 6; its number for VS is one less");
    ControlFile x = with(2, 7, 7, 7);
    x.mode(Registers.VU);
    answers.due("all", x.due(), 109);
    dropInHvip(x, 0x400);
    answers.due("without 10", x.due(), 101);
    dropInHvip(x, 0x4);
    answers.due("without 2", x.due(), 105);
    dropInHvip(x, 0x40);
    answers.due("without 6", x.due(), ControlFile.BAD);
  }

  private static void dropInHvip(ControlFile x, int bits) {
    int mode = x.mode(Registers.S);
    x.access(Registers.HVIP, Registers.CLEAR, bits);
    x.mode(mode);
  }

  /** Each of the three alone, in each mode, with IE of VS STATUS and without it. */
  private static void inEachModeForVs(Answers answers) {
    answers.sentence("due in VU, and in VS with IE of VS STATUS");
    for (int i = 0; i < 3; i++) {
      for (int open = 0; open < 4; open++) {
        ControlFile x = with(open, 1 << i, 1 << i, 1 << i);
        int number = 100 + H_BITS[i] - 1;
        for (int mode : new int[] {Registers.U, Registers.S}) {
          x.mode(mode);
          answers.due("none for VS in mode " + mode, x.due(), ControlFile.BAD);
        }
        x.mode(Registers.VU);
        answers.due(number + " in VU", x.due(), number);
        x.mode(Registers.VS);
        answers.due(number + " in VS, open " + open, x.due(),
            (open & 2) != 0 ? number : ControlFile.BAD);
      }
    }
  }

  private static void ofHvip(Answers answers) {
    answers.sentence("HVIP and HIE without HIDELEG for S, HVIP and HIE and HIDELEG for VS");
    for (int mode : Registers.MODES) {
      for (int open = 0; open < 4; open++) {
        for (int set = 0; set < 512; set++) {
          int pending = set & 7;
          int enabled = set >> 3 & 7;
          int delegated = set >> 6;
          ControlFile x = with(open, pending, enabled, delegated);
          x.mode(mode);
          answers.due("mode " + mode + " open " + open + " HVIP " + pending + " HIE " + enabled
              + " HIDELEG " + delegated,
              x.due(), want(mode, open, 0, pending & enabled, delegated));
        }
      }
    }
  }

  private static void otherwise(Answers answers) {
    answers.sentence("Otherwise for VS");
    for (int mode : Registers.MODES) {
      for (int open = 0; open < 4; open++) {
        for (int set = 0; set < 512; set++) {
          int own = set & 7;
          int active = set >> 3 & 7;
          int delegated = set >> 6;
          ControlFile x = with(open, active, active, delegated);
          pend(x, own);
          x.access(Registers.IE, Registers.WRITE, -1);
          x.mode(mode);
          answers.due("mode " + mode + " open " + open + " IP " + own + " HVIP " + active
              + " HIDELEG " + delegated, x.due(), want(mode, open, own, active, delegated));
        }
      }
    }
  }

  private static void asItIsNow(Answers answers) {
    answers.sentence("of one for VS 100 more than it has there");
    ControlFile x = with(3, 7, 7, 7);
    int[] inModes = {ControlFile.BAD, ControlFile.BAD, 109, 109};
    for (int mode : Registers.MODES) {
      x.mode(mode);
      answers.due("10 for VS in mode " + mode, x.due(), inModes[mode]);
    }
    x.access(Registers.IE, Registers.CLEAR, 0x200);
    answers.due("2 for VS, 10 disabled through VS IE", x.due(), 101);
    x.access(Registers.IP, Registers.CLEAR, 0x2);
    answers.due("6 for VS, 2 cleared through VS IP", x.due(), 105);
    x.access(Registers.STATUS, Registers.CLEAR, 0x2);
    answers.due("none with VS STATUS closed", x.due(), ControlFile.BAD);
    x.mode(Registers.VU);
    answers.due("6 for VS in VU", x.due(), 105);
    x.mode(Registers.S);
    x.access(Registers.HIDELEG, Registers.WRITE, 0);
    answers.due("6 for S, no longer delegated", x.due(), 6);
  }

  private static void itChangesNothing(Answers answers) {
    answers.sentence("The interrupt that is due (it stays due)");
    for (int mode : Registers.MODES) {
      ControlFile x = State.full(mode);
      String before = State.of(x);
      int due = x.due();
      answers.due("due() again", x.due(), due);
      answers.due("all after due()", State.of(x), before);
    }
  }
}
