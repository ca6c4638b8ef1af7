/** All that can be seen of an object, and objects in states that tests begin from. */
final class State {
  private State() {}

  /** Some 50 calls, which leave the object as it was. */
  static String of(ControlFile x) {
    StringBuilder seen = new StringBuilder();
    for (int number : Registers.ALL) {
      seen.append(Registers.hex(number)).append('=');
      seen.append(Registers.hex(x.control(number))).append(' ');
    }
    seen.append("old=").append(x.old()).append(" used=").append(x.used());
    int mode = x.mode(Registers.S);
    seen.append(" mode=").append(mode);
    for (int m : Registers.MODES) {
      x.mode(m);
      seen.append(" due").append(m).append('=').append(x.due());
    }
    x.mode(mode);
    long time = x.time(0);
    x.time(time);
    long alarm = x.alarm(0);
    x.alarm(alarm);
    boolean line = x.line(false);
    x.line(line);
    return seen.append(" time=").append(time).append(" alarm=").append(alarm)
        .append(" line=").append(line).toString();
  }

  static ControlFile inMode(int mode) {
    ControlFile x = new ControlFile();
    x.mode(mode);
    return x;
  }

  static ControlFile inMode(int mode, int hstatus) {
    ControlFile x = new ControlFile();
    x.access(Registers.HSTATUS, Registers.WRITE, hstatus);
    x.mode(mode);
    return x;
  }

  /** Every register tells every bit that it can tell. */
  static ControlFile full(int mode) {
    ControlFile x = new ControlFile();
    fill(x);
    x.mode(mode);
    return x;
  }

  static void fill(ControlFile x) {
    x.mode(Registers.S);
    for (int number : Registers.WRITABLE) {
      x.access(number, Registers.WRITE, -1);
    }
    x.time(Long.MAX_VALUE);
    x.alarm(4);
    x.line(true);
    x.access(Registers.SCRATCH, Registers.READ, 0);
  }
}
