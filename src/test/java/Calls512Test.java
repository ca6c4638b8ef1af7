/**
 * "An object is used for at most 512 calls after it has been made": runs of just so many calls,
 * each answer held against the Model. The runs are the same every time.
 */
public final class Calls512Test {
  private static final int CALLS = 512;
  private static final int RUNS = 400;
  private static final int[] VALUES = {
    0, -1, 0x222, 0x444, 2, 4, 0x100000, Integer.MIN_VALUE, Integer.MAX_VALUE
  };
  private static final int[] H_INTERRUPTS = {
    Registers.HIDELEG, Registers.HIE, Registers.HVIP, Registers.HIP, Registers.VSIE,
    Registers.VSIP, Registers.IE, Registers.IP, Registers.STATUS, Registers.VSSTATUS
  };
  private static final long[] TIMES = {
    0, 1, 2, 3, -1, 0xffffffffL, 0x100000000L, Long.MAX_VALUE - 1, Long.MAX_VALUE, Long.MIN_VALUE
  };

  private final Answers answers;
  private final ControlFile x = new ControlFile();
  private final Model model = new Model();
  private long seed;

  private Calls512Test(Answers answers, int run) {
    this.answers = answers;
    this.seed = run;
  }

  public static void main(String[] args) {
    Answers answers = new Answers();
    answers.sentence("An object is used for at most 512 calls");
    for (int run = 1; run <= RUNS; run++) {
      Calls512Test one = new Calls512Test(answers, run);
      for (int call = 1; call < CALLS; call++) {
        one.call("run " + run + " call " + call + ": ", one.pick(40));
      }
      one.call("run " + run + ", the last call: ", run % 40);
    }
    answers.sentence("what later calls answer is free (but they answer)");
    later(answers);
    answers.end();
  }

  private int pick(int bound) {
    seed = seed * 6364136223846793005L + 1442695040888963407L;
    return (int) ((seed >>> 33) % bound);
  }

  private int pickOf(int[] row) {
    return row[pick(row.length)];
  }

  private int pickValue() {
    return pick(3) == 0 ? pick(1 << 30) * 4 + pick(4) : pickOf(VALUES);
  }

  /** One call of the object, never more, so that a run has just as many as it counts. */
  private void call(String where, int what) {
    if (what < 18) {
      access(where);
    } else if (what < 24) {
      answers.due(where + "due()", x.due(), model.due());
    } else if (what < 28) {
      int number = pick(8) == 0 ? pick(0x1000) : pickOf(Registers.ALL);
      answers.due(where + "control(" + Registers.hex(number) + ")",
          x.control(number), model.control(number));
    } else if (what < 30) {
      answers.due(where + "old()", x.old(), model.old());
    } else if (what < 32) {
      answers.due(where + "used()", x.used(), model.used());
    } else if (what < 35) {
      int m = pick(6) - 1;
      answers.due(where + "mode(" + m + ")", x.mode(m), model.mode(m));
    } else {
      outside(where, what);
    }
  }

  private void access(String where) {
    int chance = pick(10);
    int number = chance == 0 ? pickOf(Registers.STRANGE)
        : chance < 6 ? pickOf(H_INTERRUPTS) : pickOf(Registers.ALL);
    int kind = pick(12) == 0 ? pick(8) - 2 : pick(4);
    int value = pickValue();
    answers.due(where + Registers.call(number, kind, value),
        x.access(number, kind, value), model.access(number, kind, value));
  }

  private void outside(String where, int what) {
    long t = TIMES[pick(TIMES.length)];
    if (what == 35 || what == 36) {
      answers.due(where + "time(" + t + ")", x.time(t), model.time(t));
    } else if (what == 37) {
      answers.due(where + "alarm(" + t + ")", x.alarm(t), model.alarm(t));
    } else if (what == 38) {
      boolean on = pick(2) == 0;
      answers.due(where + "line(" + on + ")", x.line(on), model.line(on));
    } else if (pick(10) == 0) {
      x.begin();
      model.begin();
    } else {
      // A machine that has left S cannot come to much, so it is brought back now and then.
      answers.due(where + "mode(1)", x.mode(1), model.mode(1));
    }
  }

  private static void later(Answers answers) {
    Calls512Test one = new Calls512Test(new Answers(), 1);
    int calls = 0;
    while (calls < 4 * CALLS) {
      one.call("", one.pick(40));
      calls++;
    }
    answers.due("calls that came to an end", calls, 4 * CALLS);
  }
}
