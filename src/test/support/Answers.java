/**
 * Counts the answers of one test and ends it with exit code 1 if one was not due.
 * A test goes through sentences of the document, and each must have asked something.
 */
final class Answers {
  private String sentence = "";
  private int askedOfSentence = 0;
  private int sentences = 0;
  private int asked = 0;
  private int wrong = 0;

  /** From here on the answers are those that this sentence of the document asks for. */
  void sentence(String text) {
    closeSentence();
    sentence = text;
    sentences++;
    askedOfSentence = 0;
  }

  void due(String call, long got, long want) {
    count(call, got == want, Long.toString(got), Long.toString(want));
  }

  void due(String call, boolean got, boolean want) {
    count(call, got == want, Boolean.toString(got), Boolean.toString(want));
  }

  void due(String call, String got, String want) {
    count(call, got.equals(want), got, want);
  }

  void end() {
    closeSentence();
    System.out.println(sentences + " sentences, " + asked + " answers, " + wrong + " wrong");
    if (wrong != 0 || asked == 0) {
      System.exit(1);
    }
  }

  private void count(String call, boolean right, String got, String want) {
    asked++;
    askedOfSentence++;
    if (!right) {
      wrong++;
      System.out.println("\"" + sentence + "\": " + call + " answered " + got
          + ", due is " + want);
    }
  }

  private void closeSentence() {
    if (sentences != 0 && askedOfSentence == 0) {
      wrong++;
      System.out.println("\"" + sentence + "\": nothing was asked");
    }
  }
}
