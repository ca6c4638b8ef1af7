/** Promise 11: due, for every set of pending, enabled and delegated bits in every mode. */
public final class Promise11DueTest {
  private static final int[] S_BITS = {9, 1, 5};
  private static final int[] H_BITS = {10, 2, 6};

  public static void main(String[] args) {
    Answers answers = new Answers();
    for (int mode = Registers.U; mode <= Registers.VS; mode++) {
      for (int open = 0; open < 4; open++) {
        everySetForS(answers, mode, open);
        everySetOfHvip(answers, mode, open);
      }
    }
    mixed(answers);
    answers.end();
  }

  private static int spread(int[] places, int set) {
    int bits = 0;
    for (int i = 0; i < places.length; i++) {
      if ((set >> i & 1) != 0) {
        bits |= 1 << places[i];
      }
    }
    return bits;
  }

  private static int first(int[] places, int set) {
    for (int i = 0; i < places.length; i++) {
      if ((set >> i & 1) != 0) {
        return places[i];
      }
    }
    return ControlFile.BAD;
  }

  /** Bit 0 of open: IE of STATUS; bit 1: IE of VS STATUS; every other STATUS bit is the opposite. */
  private static void openTo(ControlFile x, int open) {
    x.access(Registers.STATUS, Registers.WRITE, (open & 1) != 0 ? 2 : ~2);
    x.access(Registers.VSSTATUS, Registers.WRITE, (open & 2) != 0 ? 2 : ~2);
  }

  private static void pend(ControlFile x, int set) {
    x.line((set & 1) != 0);
    x.access(Registers.IP, Registers.WRITE, (set & 2) != 0 ? 2 : 0);
    x.alarm((set & 4) != 0 ? 0 : -1);
  }

  private static boolean isOpenForS(int mode, int open) {
    return mode != Registers.S || (open & 1) != 0;
  }

  private static boolean isOpenForVs(int mode, int open) {
    return mode == Registers.VU || (mode == Registers.VS && (open & 2) != 0);
  }

  private static void everySetForS(Answers answers, int mode, int open) {
    for (int pending = 0; pending < 8; pending++) {
      for (int enabled = 0; enabled < 8; enabled++) {
        ControlFile x = new ControlFile();
        openTo(x, open);
        pend(x, pending);
        x.access(Registers.IE, Registers.WRITE, spread(S_BITS, enabled));
        x.mode(mode);
        answers.due("mode " + mode + " open " + open + " IP " + pending + " IE " + enabled,
            x.due(),
            isOpenForS(mode, open) ? first(S_BITS, pending & enabled) : ControlFile.BAD);
      }
    }
  }

  private static void everySetOfHvip(Answers answers, int mode, int open) {
    for (int set = 0; set < 512; set++) {
      int pending = set & 7;
      int enabled = set >> 3 & 7;
      int delegated = set >> 6;
      ControlFile x = new ControlFile();
      openTo(x, open);
      x.access(Registers.HVIP, Registers.WRITE, spread(H_BITS, pending));
      x.access(Registers.HIE, Registers.WRITE, spread(H_BITS, enabled));
      x.access(Registers.HIDELEG, Registers.WRITE, spread(H_BITS, delegated));
      x.mode(mode);
      answers.due("mode " + mode + " open " + open + " HVIP " + pending + " HIE " + enabled
          + " HIDELEG " + delegated,
          x.due(), ofHvip(mode, open, pending & enabled, delegated));
    }
  }

  private static int ofHvip(int mode, int open, int active, int delegated) {
    int forS = first(H_BITS, active & ~delegated);
    if (forS != ControlFile.BAD && isOpenForS(mode, open)) {
      return forS;
    }
    int forVs = first(H_BITS, active & delegated);
    if (forVs != ControlFile.BAD && isOpenForVs(mode, open)) {
      return 100 + forVs - 1;
    }
    return ControlFile.BAD;
  }

  /** All that can be pending is, and it is taken away one by one, in the document's order. */
  private static void mixed(Answers answers) {
    ControlFile x = new ControlFile();
    pend(x, 7);
    x.access(Registers.IE, Registers.WRITE, -1);
    x.access(Registers.HVIP, Registers.WRITE, -1);
    x.access(Registers.HIE, Registers.WRITE, -1);
    x.access(Registers.STATUS, Registers.SET, 2);
    answers.due("all", x.due(), 9);
    x.line(false);
    answers.due("without 9", x.due(), 1);
    x.access(Registers.IP, Registers.CLEAR, 2);
    answers.due("without 1", x.due(), 5);
    x.alarm(-1);
    answers.due("without 5", x.due(), 10);
    x.access(Registers.HVIP, Registers.CLEAR, 0x400);
    answers.due("without 10", x.due(), 2);
    x.access(Registers.HVIP, Registers.CLEAR, 0x4);
    answers.due("without 2", x.due(), 6);
    x.access(Registers.HVIP, Registers.CLEAR, 0x40);
    answers.due("without 6", x.due(), ControlFile.BAD);
    sComesBeforeVs(answers, x);
  }

  private static void sComesBeforeVs(Answers answers, ControlFile x) {
    x.access(Registers.HVIP, Registers.WRITE, -1);
    x.access(Registers.HIDELEG, Registers.WRITE, -1);
    x.alarm(0);
    x.mode(Registers.VU);
    answers.due("5 for S before 10 for VS", x.due(), 5);
    x.alarm(-1);
    answers.due("109", x.due(), 109);
    x.mode(Registers.S);
    answers.due("none for VS in S", x.due(), ControlFile.BAD);
    x.access(Registers.HIDELEG, Registers.WRITE, 0x404);
    x.mode(Registers.VU);
    answers.due("6 for S before 10 for VS", x.due(), 6);
  }
}
