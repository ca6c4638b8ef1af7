/** Promise 1: mode S, TIME 0, the ALARM 2^63 - 1, the line off; all registers 0. */
public final class Promise01NewObjectTest {
  public static void main(String[] args) {
    Answers answers = new Answers();
    answers.due("mode(0)", new ControlFile().mode(0), 1);
    answers.due("time(1)", new ControlFile().time(1), 0);
    answers.due("alarm(1)", new ControlFile().alarm(1), Long.MAX_VALUE);
    answers.due("line(true)", new ControlFile().line(true), false);
    answers.due("old()", new ControlFile().old(), 0);
    answers.due("used()", new ControlFile().used(), 0);
    answers.due("due()", new ControlFile().due(), ControlFile.BAD);
    allRegistersAreZero(answers);
    objectsAreApart(answers);
    answers.end();
  }

  private static void allRegistersAreZero(Answers answers) {
    ControlFile x = new ControlFile();
    int[][] all = {Registers.OF_S, Registers.OF_VS, Registers.OF_H, Registers.OF_TIME};
    for (int[] numbers : all) {
      for (int number : numbers) {
        answers.due("control " + Registers.hex(number), x.control(number), 0);
      }
    }
  }

  private static void objectsAreApart(Answers answers) {
    ControlFile one = new ControlFile();
    one.access(Registers.SCRATCH, Registers.WRITE, 7);
    one.mode(Registers.VS);
    ControlFile other = new ControlFile();
    answers.due("another object's SCRATCH", other.control(Registers.SCRATCH), 0);
    answers.due("another object's mode", other.mode(Registers.U), 1);
    answers.due("the first one's SCRATCH", one.control(Registers.SCRATCH), 7);
  }
}
