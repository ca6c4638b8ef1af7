/** Promise 7: the kinds of an access, and those that are none. */
public final class Promise07KindsTest {
  private static final int[] NO_SUCH_KIND = {
    -1, 4, 5, 8, 256, 0x10001, Integer.MAX_VALUE, Integer.MIN_VALUE, Integer.MIN_VALUE | 1
  };
  private static final int[] VALUES = {
    0, -1, 1, Integer.MIN_VALUE, Integer.MAX_VALUE, 0x55555555, 0x0f0f0f0f
  };

  public static void main(String[] args) {
    Answers answers = new Answers();
    read(answers);
    written(answers);
    bitsAreSet(answers);
    bitsAreCleared(answers);
    readAndWrite(answers);
    noSuchKind(answers);
    answers.end();
  }

  private static void read(Answers answers) {
    answers.sentence("kind 0: it is read");
    for (int number : Registers.ALL) {
      ControlFile x = State.full(Registers.S);
      int told = x.control(number);
      answers.due(Registers.call(number, Registers.READ, 0),
          x.access(number, Registers.READ, 0), 0);
      answers.due("old()", x.old(), told);
      String before = State.of(x);
      x.access(number, Registers.READ, -1);
      x.access(number, Registers.READ, 0x55555555);
      answers.due("all after reads of " + Registers.hex(number), State.of(x), before);
    }
  }

  /** SCRATCH keeps all 32 bits, so that what comes of a kind is seen plainly. */
  private static void tell(Answers answers, int kind, int first, int value, int want) {
    ControlFile x = new ControlFile();
    x.access(Registers.SCRATCH, Registers.WRITE, first);
    answers.due(Registers.call(Registers.SCRATCH, kind, value),
        x.access(Registers.SCRATCH, kind, value), 0);
    answers.due("its old value is at hand", x.old(), first);
    answers.due("SCRATCH", x.control(Registers.SCRATCH), want);
  }

  private static void written(Answers answers) {
    answers.sentence("1: written");
    for (int first : VALUES) {
      for (int value : VALUES) {
        tell(answers, Registers.WRITE, first, value, value);
      }
    }
  }

  private static void bitsAreSet(Answers answers) {
    answers.sentence("2: bits are set");
    for (int first : VALUES) {
      for (int value : VALUES) {
        tell(answers, Registers.SET, first, value, first | value);
      }
    }
  }

  private static void bitsAreCleared(Answers answers) {
    answers.sentence("3: cleared");
    for (int first : VALUES) {
      for (int value : VALUES) {
        tell(answers, Registers.CLEAR, first, value, first & ~value);
      }
    }
  }

  /** Bits that a register tells of others are read too, but what is not kept of them is not. */
  private static void readAndWrite(Answers answers) {
    answers.sentence("both are a read and a write of what comes of it");
    for (int kind : new int[] {Registers.SET, Registers.CLEAR}) {
      for (int number : Registers.WRITABLE) {
        for (int value : VALUES) {
          ControlFile x = State.full(Registers.S);
          ControlFile y = State.full(Registers.S);
          int told = y.control(number);
          x.access(number, kind, value);
          y.access(number, Registers.WRITE, kind == Registers.SET ? told | value : told & ~value);
          answers.due(Registers.call(number, kind, value), State.of(x), State.of(y));
        }
      }
      for (int number : Registers.OF_TIME) {
        answers.due(Registers.call(number, kind, 0),
            new ControlFile().access(number, kind, 0), ControlFile.ILLEGAL);
      }
    }
  }

  private static void noSuchKind(Answers answers) {
    answers.sentence("BAD: no such kind");
    for (int mode : Registers.MODES) {
      for (int number : Registers.joined(Registers.ALL, Registers.STRANGE)) {
        ControlFile x = State.full(mode);
        String before = State.of(x);
        for (int kind : NO_SUCH_KIND) {
          answers.due("mode " + mode + " " + Registers.call(number, kind, 0),
              x.access(number, kind, 0), ControlFile.BAD);
          answers.due("mode " + mode + " " + Registers.call(number, kind, -1),
              x.access(number, kind, -1), ControlFile.BAD);
        }
        answers.due("all after bad kinds", State.of(x), before);
      }
    }
  }
}
