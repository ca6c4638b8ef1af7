import java.util.HashMap;
import java.util.Map;

/**
 * The document told once more, bit by bit and without regard to speed, so that long runs of
 * calls can be held against it. It shares no line with the class.
 */
final class Model {
  private static final Map<Integer, int[]> KEPT_PLACES = new HashMap<>();

  static {
    int[] status = {1, 5, 8, 18, 19};
    int[] ofH = {2, 6, 10};
    KEPT_PLACES.put(Registers.STATUS, status);
    KEPT_PLACES.put(Registers.VSSTATUS, status);
    KEPT_PLACES.put(Registers.HSTATUS, new int[] {6, 7, 8, 9, 20, 21, 22});
    KEPT_PLACES.put(Registers.IE, new int[] {1, 5, 9});
    KEPT_PLACES.put(Registers.IP, new int[] {1});
    KEPT_PLACES.put(Registers.HEDELEG, new int[] {0, 1, 2, 3, 4, 5, 6, 7, 8, 12, 13, 15});
    KEPT_PLACES.put(Registers.HIDELEG, ofH);
    KEPT_PLACES.put(Registers.HIE, ofH);
    KEPT_PLACES.put(Registers.HVIP, ofH);
  }

  private final Map<Integer, Integer> held = new HashMap<>();
  private int mode = Registers.S;
  private long time = 0;
  private long alarm = Long.MAX_VALUE;
  private boolean line = false;
  private int old = 0;

  void begin() {
    held.clear();
    mode = Registers.S;
    time = 0;
    alarm = Long.MAX_VALUE;
    line = false;
    old = 0;
  }

  int mode(int m) {
    if (!Registers.isIn(Registers.MODES, m)) {
      return -1;
    }
    int before = mode;
    mode = m;
    return before;
  }

  long time(long t) {
    long before = t < 0 ? -1 : time;
    time = t < 0 ? time : t;
    return before;
  }

  long alarm(long t) {
    long before = alarm;
    alarm = t < 0 ? Long.MAX_VALUE : t;
    return before;
  }

  boolean line(boolean on) {
    boolean before = line;
    line = on;
    return before;
  }

  int access(int number, int kind, int value) {
    if (!Registers.isIn(Registers.KINDS, kind)) {
      return -1;
    }
    int refusal = refusal(number, kind);
    if (refusal != 0) {
      return refusal;
    }
    boolean virtual = mode == Registers.VS && Registers.isIn(Registers.OF_S, number);
    int meant = virtual ? number + 0x100 : number;
    old = control(meant);
    if (kind == Registers.WRITE) {
      write(meant, value);
    } else if (kind == Registers.SET) {
      write(meant, old | value);
    } else if (kind == Registers.CLEAR) {
      write(meant, old & ~value);
    }
    return 0;
  }

  int old() {
    return old;
  }

  int control(int number) {
    switch (number) {
      case Registers.IP:
        return held(number) + (time >= alarm ? 0x20 : 0) + (line ? 0x200 : 0);
      case Registers.HIP:
        return held(Registers.HVIP);
      case Registers.VSIP:
        return (held(Registers.HVIP) & held(Registers.HIDELEG)) / 2;
      case Registers.VSIE:
        return (held(Registers.HIE) & held(Registers.HIDELEG)) / 2;
      case Registers.TIME:
        return (int) (time & 0xffffffffL);
      case Registers.TIMEH:
        return (int) (time / 0x100000000L);
      default:
        return held(number);
    }
  }

  int used() {
    int count = 0;
    for (int number : Registers.ALL) {
      count += control(number) != 0 ? 1 : 0;
    }
    return count;
  }

  int due() {
    boolean sOpen = mode != Registers.S || has(Registers.STATUS, 1);
    for (int place : new int[] {9, 1, 5}) {
      if (sOpen && has(Registers.IP, place) && has(Registers.IE, place)) {
        return place;
      }
    }
    for (int place : new int[] {10, 2, 6}) {
      if (sOpen && isActive(place) && !has(Registers.HIDELEG, place)) {
        return place;
      }
    }
    boolean vsOpen = mode == Registers.VU || mode == Registers.VS && has(Registers.VSSTATUS, 1);
    for (int place : new int[] {10, 2, 6}) {
      if (vsOpen && isActive(place) && has(Registers.HIDELEG, place)) {
        return 99 + place;
      }
    }
    return -1;
  }

  private boolean isActive(int place) {
    return has(Registers.HVIP, place) && has(Registers.HIE, place);
  }

  private boolean has(int number, int place) {
    return (control(number) >> place & 1) == 1;
  }

  private int held(int number) {
    return held.getOrDefault(number, 0);
  }

  private int refusal(int number, int kind) {
    if (Registers.isIn(Registers.OF_TIME, number)) {
      return kind == Registers.READ ? 0 : 2;
    }
    if (!Registers.exists(number)) {
      return 2;
    }
    if (mode == Registers.U) {
      return 2;
    }
    if (mode == Registers.VU) {
      return 22;
    }
    if (mode == Registers.VS) {
      boolean barred = number == Registers.ATP && has(Registers.HSTATUS, 20);
      return Registers.isIn(Registers.OF_S, number) && !barred ? 0 : 22;
    }
    return 0;
  }

  private void write(int number, int value) {
    if (number == Registers.HIP) {
      move(Registers.HVIP, 2, value, 2);
    } else if (number == Registers.VSIP) {
      moveIfDelegated(Registers.HVIP, value, 1);
    } else if (number == Registers.VSIE) {
      moveIfDelegated(Registers.HIE, value, 1);
      moveIfDelegated(Registers.HIE, value, 5);
      moveIfDelegated(Registers.HIE, value, 9);
    } else {
      int kept = 0;
      for (int place = 0; place < 32; place++) {
        if (isKept(number, place)) {
          kept |= value & 1 << place;
        }
      }
      held.put(number, kept);
    }
  }

  private void moveIfDelegated(int number, int value, int from) {
    if (has(Registers.HIDELEG, from + 1)) {
      move(number, from + 1, value, from);
    }
  }

  private void move(int number, int to, int value, int from) {
    int without = held(number) & ~(1 << to);
    held.put(number, (value >> from & 1) == 1 ? without | 1 << to : without);
  }

  private static boolean isKept(int number, int place) {
    if (KEPT_PLACES.containsKey(number)) {
      return Registers.isIn(KEPT_PLACES.get(number), place);
    }
    switch (number) {
      case Registers.TVEC:
      case Registers.VSTVEC:
        return place != 1;
      case Registers.EPC:
      case Registers.VSEPC:
        return place > 1;
      case Registers.ATP:
      case Registers.VSATP:
        return place == 31 || place <= 21;
      case Registers.HGATP:
        return place == 31 || place >= 2 && place <= 21;
      default:
        return true;
    }
  }
}
