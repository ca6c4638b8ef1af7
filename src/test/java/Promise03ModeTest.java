/** Promise 3: mode, sentence by sentence. */
public final class Promise03ModeTest {
  private static final int[] NONE_SUCH = {
    -1, 4, 5, 7, 8, 22, 100, 256, 259, 0x10001, Integer.MAX_VALUE, Integer.MIN_VALUE,
    Integer.MIN_VALUE | 1, -4
  };

  public static void main(String[] args) {
    Answers answers = new Answers();
    theOneBefore(answers);
    anotherMode(answers);
    thereIsNoneSuch(answers);
    nothingElseChanges(answers);
    answers.end();
  }

  private static void theOneBefore(Answers answers) {
    answers.sentence("Another mode: the one before");
    for (int from : Registers.MODES) {
      for (int to : Registers.MODES) {
        ControlFile x = State.inMode(from);
        answers.due("mode(" + to + ") in " + from, x.mode(to), from);
        answers.due("mode(" + from + ") in " + to, x.mode(from), to);
      }
    }
  }

  /** Each of the four modes is known by what it may do. */
  private static void anotherMode(Answers answers) {
    answers.sentence("MODES: 0 U, 1 S, 2 VU, 3 VS");
    int[] ofStatus = {ControlFile.ILLEGAL, 0, ControlFile.VIRTUAL, 0};
    int[] ofHstatus = {ControlFile.ILLEGAL, 0, ControlFile.VIRTUAL, ControlFile.VIRTUAL};
    for (int m = 0; m < 4; m++) {
      ControlFile x = State.inMode(m);
      answers.due("STATUS in mode " + m,
          x.access(Registers.STATUS, Registers.READ, 0), ofStatus[m]);
      answers.due("HSTATUS in mode " + m,
          x.access(Registers.HSTATUS, Registers.READ, 0), ofHstatus[m]);
    }
  }

  private static void thereIsNoneSuch(Answers answers) {
    answers.sentence("BAD: there is none such");
    for (int mode : Registers.MODES) {
      ControlFile empty = State.inMode(mode);
      ControlFile full = State.full(mode);
      String ofEmpty = State.of(empty);
      String ofFull = State.of(full);
      for (int m : NONE_SUCH) {
        answers.due("mode(" + m + ")", empty.mode(m), ControlFile.BAD);
        answers.due("mode(" + m + ")", full.mode(m), ControlFile.BAD);
      }
      answers.due("a new object after refused calls", State.of(empty), ofEmpty);
      answers.due("a full object after refused calls", State.of(full), ofFull);
      answers.due("mode(0) after refused calls", empty.mode(0), mode);
    }
  }

  private static void nothingElseChanges(Answers answers) {
    answers.sentence("Another mode");
    ControlFile x = State.full(Registers.S);
    String before = State.of(x);
    for (int m : new int[] {Registers.U, Registers.VS, Registers.VU, Registers.VS, Registers.S}) {
      x.mode(m);
    }
    answers.due("all but the mode", State.of(x), before);
  }
}
