import java.util.Arrays;

/**
 * The control registers of a machine with a hypervisor's mode and virtual ones.
 * Every register has a slot; the row of slots is made once, in the constructor.
 */
public final class ControlFile {
  public static final int BAD = -1, ILLEGAL = 2, VIRTUAL = 22;

  private static final int ALLOWED = 0;
  private static final int NO_SLOT = -1;

  private static final int MODE_U = 0, MODE_S = 1, MODE_VU = 2, MODE_VS = 3;
  private static final int READ = 0, WRITE = 1, SET = 2, CLEAR = 3;
  private static final long NEVER = 0x7fffffffffffffffL;

  // The S registers come first and the VS ones follow in the same order, so that
  // an S slot and the VS slot of its kind are always BANK apart.
  private static final int BANK = 9;
  private static final int S_STATUS = 0, S_IE = 1, S_IP = 7, S_ATP = 8;
  private static final int VS_STATUS = S_STATUS + BANK, VS_IE = S_IE + BANK, VS_IP = S_IP + BANK;
  private static final int HSTATUS = 18, HIDELEG = 20, HIE = 21, HIP = 23, HVIP = 24;
  private static final int TIME_LOW = 27, TIME_HIGH = 28;
  private static final int SLOTS = 29;

  private static final int[] NUMBERS = {
    0x100, 0x104, 0x105, 0x140, 0x141, 0x142, 0x143, 0x144, 0x180,
    0x200, 0x204, 0x205, 0x240, 0x241, 0x242, 0x243, 0x244, 0x280,
    0x600, 0x602, 0x603, 0x604, 0x643, 0x644, 0x645, 0x64a, 0x680,
    0xc01, 0xc81
  };

  // What a plain write keeps. The zeros are the registers that hold nothing of
  // their own: VS IE, VS IP, HIP and the two of TIME.
  private static final int[] KEEPS = {
    0x000c0122, 0x00000222, 0xfffffffd, 0xffffffff, 0xfffffffc,
    0xffffffff, 0xffffffff, 0x00000002, 0x803fffff,
    0x000c0122, 0x00000000, 0xfffffffd, 0xffffffff, 0xfffffffc,
    0xffffffff, 0xffffffff, 0x00000000, 0x803fffff,
    0x007003c0, 0x0000b1ff, 0x00000444, 0x00000444, 0xffffffff,
    0x00000000, 0x00000444, 0xffffffff, 0x803ffffc,
    0x00000000, 0x00000000
  };

  private static final int STATUS_IE_BIT = 1 << 1;
  private static final int HSTATUS_VTVM_BIT = 1 << 20;
  private static final int TIMER_BIT = 1 << 5;
  private static final int LINE_BIT = 1 << 9;
  private static final int VIRTUAL_SOFT_BIT = 1 << 2;

  // A VS interrupt is told one lower than the H one it stands for, and 100 up
  // so that it is not taken for an S one.
  private static final int VS_NUMBER_SHIFT = 100 - 1;

  private static final int[] S_ORDER = {9, 1, 5, 10, 2, 6};
  private static final int[] VS_ORDER = {10, 2, 6};

  private final int[] kept;
  private int modeNow;
  private long timeNow;
  private long alarmAt;
  private boolean lineOn;
  private int oldValue;

  public ControlFile() {
    kept = new int[SLOTS];
    startOver();
  }

  public void begin() {
    startOver();
  }

  public int mode(int m) {
    if (m < MODE_U || m > MODE_VS) {
      return BAD;
    }
    int before = modeNow;
    modeNow = m;
    return before;
  }

  public long time(long t) {
    if (t < 0) {
      return BAD;
    }
    long before = timeNow;
    timeNow = t;
    return before;
  }

  public long alarm(long t) {
    long before = alarmAt;
    alarmAt = t < 0 ? NEVER : t;
    return before;
  }

  public boolean line(boolean on) {
    boolean before = lineOn;
    lineOn = on;
    return before;
  }

  public int access(int number, int kind, int value) {
    if (kind < READ || kind > CLEAR) {
      return BAD;
    }
    int named = slotOf(number);
    int answer = permission(named, kind != READ);
    if (answer != ALLOWED) {
      return answer;
    }
    int slot = modeNow == MODE_VS && isOfS(named) ? named + BANK : named;
    int before = told(slot);
    if (kind != READ) {
      put(slot, written(before, kind, value));
    }
    oldValue = before;
    return ALLOWED;
  }

  public int old() {
    return oldValue;
  }

  public int control(int number) {
    return told(slotOf(number));
  }

  public int used() {
    int count = 0;
    for (int slot = 0; slot < SLOTS; slot++) {
      if (told(slot) != 0) {
        count++;
      }
    }
    return count;
  }

  public int due() {
    int forS = dueForS();
    return forS != BAD ? forS : dueForVs();
  }

  private void startOver() {
    Arrays.fill(kept, 0);
    modeNow = MODE_S;
    timeNow = 0;
    alarmAt = NEVER;
    lineOn = false;
    oldValue = 0;
  }

  private static int slotOf(int number) {
    for (int slot = 0; slot < NUMBERS.length; slot++) {
      if (NUMBERS[slot] == number) {
        return slot;
      }
    }
    return NO_SLOT;
  }

  private static boolean isOfS(int slot) {
    return slot >= 0 && slot < BANK;
  }

  private static boolean isOfTime(int slot) {
    return slot == TIME_LOW || slot == TIME_HIGH;
  }

  private int permission(int slot, boolean writes) {
    if (slot == NO_SLOT || (writes && isOfTime(slot))) {
      return ILLEGAL;
    }
    if (modeNow == MODE_S || isOfTime(slot)) {
      return ALLOWED;
    }
    if (modeNow == MODE_U) {
      return ILLEGAL;
    }
    return modeNow == MODE_VS && isOfS(slot) && !isTrapped(slot) ? ALLOWED : VIRTUAL;
  }

  private boolean isTrapped(int slot) {
    return slot == S_ATP && (kept[HSTATUS] & HSTATUS_VTVM_BIT) != 0;
  }

  private static int written(int before, int kind, int value) {
    if (kind == WRITE) {
      return value;
    }
    return kind == SET ? before | value : before & ~value;
  }

  private int told(int slot) {
    switch (slot) {
      case S_IP:
        return pendingForS();
      case VS_IE:
        return (kept[HIE] & kept[HIDELEG]) >>> 1;
      case VS_IP:
        return (kept[HVIP] & kept[HIDELEG]) >>> 1;
      case HIP:
        return kept[HVIP];
      case TIME_LOW:
        return (int) timeNow;
      case TIME_HIGH:
        return (int) (timeNow >>> 32);
      default:
        return slot >= 0 && slot < kept.length ? kept[slot] : 0;
    }
  }

  private int pendingForS() {
    int pending = kept[S_IP];
    if (timeNow >= alarmAt) {
      pending |= TIMER_BIT;
    }
    if (lineOn) {
      pending |= LINE_BIT;
    }
    return pending;
  }

  private void put(int slot, int value) {
    switch (slot) {
      case VS_IE:
        putBits(HIE, value << 1, kept[HIDELEG]);
        break;
      case VS_IP:
        putBits(HVIP, value << 1, VIRTUAL_SOFT_BIT & kept[HIDELEG]);
        break;
      case HIP:
        putBits(HVIP, value, VIRTUAL_SOFT_BIT);
        break;
      default:
        if (slot >= 0 && slot < kept.length && slot < KEEPS.length) {
          kept[slot] = value & KEEPS[slot];
        }
        break;
    }
  }

  private void putBits(int slot, int value, int bits) {
    if (slot >= 0 && slot < kept.length) {
      kept[slot] = (kept[slot] & ~bits) | (value & bits);
    }
  }

  private int dueForS() {
    if (modeNow == MODE_S && (kept[S_STATUS] & STATUS_IE_BIT) == 0) {
      return BAD;
    }
    int own = pendingForS() & kept[S_IE];
    int virtual = kept[HVIP] & kept[HIE] & ~kept[HIDELEG];
    return firstOf(S_ORDER, own | virtual);
  }

  private int dueForVs() {
    boolean open = modeNow == MODE_VU
        || (modeNow == MODE_VS && (kept[VS_STATUS] & STATUS_IE_BIT) != 0);
    if (!open) {
      return BAD;
    }
    int first = firstOf(VS_ORDER, kept[HVIP] & kept[HIE] & kept[HIDELEG]);
    return first == BAD ? BAD : first + VS_NUMBER_SHIFT;
  }

  private static int firstOf(int[] order, int bits) {
    for (int i = 0; i < order.length; i++) {
      if ((bits >>> order[i] & 1) != 0) {
        return order[i];
      }
    }
    return BAD;
  }
}
