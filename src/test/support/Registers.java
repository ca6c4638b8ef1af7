/** The registers by name, and their numbers as the document lists them. */
final class Registers {
  static final int U = 0, S = 1, VU = 2, VS = 3;
  static final int READ = 0, WRITE = 1, SET = 2, CLEAR = 3;

  static final int STATUS = 0x100, IE = 0x104, TVEC = 0x105, SCRATCH = 0x140, EPC = 0x141,
      CAUSE = 0x142, TVAL = 0x143, IP = 0x144, ATP = 0x180;
  static final int VSSTATUS = 0x200, VSIE = 0x204, VSTVEC = 0x205, VSSCRATCH = 0x240,
      VSEPC = 0x241, VSCAUSE = 0x242, VSTVAL = 0x243, VSIP = 0x244, VSATP = 0x280;
  static final int HSTATUS = 0x600, HEDELEG = 0x602, HIDELEG = 0x603, HIE = 0x604,
      HTVAL = 0x643, HIP = 0x644, HVIP = 0x645, HTINST = 0x64a, HGATP = 0x680;
  static final int TIME = 0xc01, TIMEH = 0xc81;

  static final int[] MODES = {U, S, VU, VS};
  static final int[] KINDS = {READ, WRITE, SET, CLEAR};
  static final int[] OF_S = {STATUS, IE, TVEC, SCRATCH, EPC, CAUSE, TVAL, IP, ATP};
  static final int[] OF_VS = {
    VSSTATUS, VSIE, VSTVEC, VSSCRATCH, VSEPC, VSCAUSE, VSTVAL, VSIP, VSATP
  };
  static final int[] OF_H = {HSTATUS, HEDELEG, HIDELEG, HIE, HTVAL, HIP, HVIP, HTINST, HGATP};
  static final int[] OF_TIME = {TIME, TIMEH};
  static final int[] ALL = joined(OF_S, OF_VS, OF_H, OF_TIME);

  /** All that can be written, those last whose bits go where H ones let them. */
  static final int[] WRITABLE = joined(OF_S, OF_H, OF_VS);

  /** Numbers that are none: below, above, and ones whose lower bits look like a register's. */
  static final int[] STRANGE = {
    -1, 0, 1, 0xfff, 0x1000, 0x1100, 0x1c01, 0x10000 | STATUS, Integer.MAX_VALUE,
    Integer.MIN_VALUE, Integer.MIN_VALUE | SCRATCH, STATUS - 0x1000, ~STATUS, -STATUS
  };

  private Registers() {}

  static boolean isIn(int[] numbers, int number) {
    for (int n : numbers) {
      if (n == number) {
        return true;
      }
    }
    return false;
  }

  static boolean exists(int number) {
    return isIn(ALL, number);
  }

  static int bits(int... places) {
    int bits = 0;
    for (int place : places) {
      bits |= 1 << place;
    }
    return bits;
  }

  static String hex(int number) {
    return "0x" + Integer.toHexString(number);
  }

  static String call(int number, int kind, int value) {
    return "access(" + hex(number) + ", " + kind + ", " + value + ")";
  }

  static int[] joined(int[]... rows) {
    int length = 0;
    for (int[] row : rows) {
      length += row.length;
    }
    int[] all = new int[length];
    int at = 0;
    for (int[] row : rows) {
      System.arraycopy(row, 0, all, at, row.length);
      at += row.length;
    }
    return all;
  }
}
