/** Promise 2: begin makes all as at first. */
public final class Promise02BeginTest {
  public static void main(String[] args) {
    Answers answers = new Answers();
    ControlFile x = new ControlFile();
    for (int round = 0; round < 2; round++) {
      disturb(x);
      answers.due("used() before begin()", x.used(), 29);
      x.begin();
      answers.due("old()", x.old(), 0);
      answers.due("used()", x.used(), 0);
      answers.due("due()", x.due(), ControlFile.BAD);
      answers.due("mode(1)", x.mode(1), 1);
      answers.due("time(0)", x.time(0), 0);
      answers.due("alarm(-1)", x.alarm(-1), Long.MAX_VALUE);
      answers.due("line(false)", x.line(false), false);
    }
    answers.end();
  }

  private static void disturb(ControlFile x) {
    x.mode(Registers.S);
    for (int[] numbers : new int[][] {Registers.OF_S, Registers.OF_H, Registers.OF_VS}) {
      for (int number : numbers) {
        x.access(number, Registers.WRITE, -1);
      }
    }
    x.time(Long.MAX_VALUE);
    x.alarm(4);
    x.line(true);
    x.access(Registers.SCRATCH, Registers.READ, 0);
    x.mode(Registers.VU);
  }
}
