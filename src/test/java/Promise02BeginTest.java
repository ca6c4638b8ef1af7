/** Promise 2: begin makes all as at first, whatever was before. */
public final class Promise02BeginTest {
  private static final String FRESH = State.of(new ControlFile());

  public static void main(String[] args) {
    Answers answers = new Answers();
    answers.sentence("All as at first");
    nothingToUndo(answers);
    eachRegisterAlone(answers);
    eachSettingAlone(answers);
    theOldValue(answers);
    allAtOnce(answers);
    afterRefusedCalls(answers);
    itWorksOnAsANewOne(answers);
    answers.end();
  }

  private static void isFresh(Answers answers, String what, ControlFile x) {
    x.begin();
    answers.due("begin() after " + what, State.of(x), FRESH);
  }

  private static void nothingToUndo(Answers answers) {
    ControlFile x = new ControlFile();
    isFresh(answers, "nothing", x);
    isFresh(answers, "another begin()", x);
  }

  private static void eachRegisterAlone(Answers answers) {
    for (int number : Registers.WRITABLE) {
      ControlFile x = new ControlFile();
      x.access(Registers.HIDELEG, Registers.WRITE, -1);
      x.access(number, Registers.WRITE, -1);
      answers.due("there is something to undo", x.control(number) != 0, true);
      isFresh(answers, "a write of " + Registers.hex(number), x);
    }
  }

  private static void eachSettingAlone(Answers answers) {
    for (int m : Registers.MODES) {
      isFresh(answers, "mode(" + m + ")", State.inMode(m));
    }
    for (long t : new long[] {0, 1, 1L << 32, Long.MAX_VALUE}) {
      ControlFile timed = new ControlFile();
      timed.time(t);
      isFresh(answers, "time(" + t + ")", timed);
      ControlFile alarmed = new ControlFile();
      alarmed.alarm(t);
      isFresh(answers, "alarm(" + t + ")", alarmed);
    }
    ControlFile lined = new ControlFile();
    lined.line(true);
    isFresh(answers, "line(true)", lined);
  }

  private static void theOldValue(Answers answers) {
    ControlFile x = new ControlFile();
    x.access(Registers.SCRATCH, Registers.WRITE, 7);
    x.access(Registers.SCRATCH, Registers.WRITE, 0);
    answers.due("old() before begin()", x.old(), 7);
    x.begin();
    answers.due("old() after begin()", x.old(), 0);
  }

  private static void allAtOnce(Answers answers) {
    for (int m : Registers.MODES) {
      ControlFile x = State.full(m);
      answers.due("used() before begin()", x.used(), Registers.ALL.length);
      isFresh(answers, "everything, in mode " + m, x);
      State.fill(x);
      x.mode(m);
      isFresh(answers, "everything once more, in mode " + m, x);
    }
  }

  private static void afterRefusedCalls(Answers answers) {
    ControlFile x = new ControlFile();
    x.mode(4);
    x.time(-1);
    x.access(Registers.SCRATCH, 4, -1);
    x.access(Registers.TIME, Registers.WRITE, -1);
    isFresh(answers, "refused calls", x);
  }

  private static void itWorksOnAsANewOne(Answers answers) {
    ControlFile x = State.full(Registers.VS);
    x.begin();
    State.fill(x);
    answers.due("filled after begin()", State.of(x), State.of(State.full(Registers.S)));
  }
}
