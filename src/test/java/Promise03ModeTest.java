/** Promise 3: mode answers the one before, or BAD and changes nothing. */
public final class Promise03ModeTest {
  public static void main(String[] args) {
    Answers answers = new Answers();
    ControlFile x = new ControlFile();
    int before = Registers.S;
    for (int m : new int[] {0, 1, 2, 3, 3, 2, 1, 0, 2, 0, 3, 1}) {
      answers.due("mode(" + m + ")", x.mode(m), before);
      before = m;
    }
    x.mode(Registers.VU);
    for (int m : new int[] {4, -1, 5, 256, Integer.MAX_VALUE, Integer.MIN_VALUE}) {
      answers.due("mode(" + m + ")", x.mode(m), ControlFile.BAD);
      answers.due("mode(2) after a bad one", x.mode(Registers.VU), Registers.VU);
    }
    answers.end();
  }
}
