import java.io.IOException;
import java.nio.file.Files;
import java.nio.file.Path;
import java.util.ArrayList;
import java.util.List;

/** README.md says how to use the class, in the document's words, and how to run its tests. */
public final class ReadmeTest {
  private static final Path README = Path.of("README.md");
  private static final Path DOCUMENT = Path.of("../shared/DOC.md");

  public static void main(String[] args) throws IOException {
    Answers answers = new Answers();
    answers.sentence("README.md is there");
    answers.due("is a file", Files.isRegularFile(README), true);
    if (Files.isRegularFile(README)) {
      String readme = Files.readString(README);
      List<String> document = Files.readAllLines(DOCUMENT);
      face(answers, readme, document);
      promises(answers, readme, document);
      example(answers, readme);
      howToTest(answers, readme);
    }
    answers.end();
  }

  private static void face(Answers answers, String readme, List<String> document) {
    answers.sentence("The public face");
    answers.due("is in README.md", readme.contains(blockAfter(document, "## The public face")), true);
  }

  private static String blockAfter(List<String> document, String heading) {
    int from = document.indexOf(heading);
    int open = from + document.subList(from, document.size()).indexOf("```java");
    int close = open + document.subList(open, document.size()).indexOf("```");
    return String.join("\n", document.subList(open, close + 1));
  }

  /** A promise stands in the document as `its head`: its words. */
  private static void promises(Answers answers, String readme, List<String> document) {
    answers.sentence("README.md says how to use the class, in the document's words");
    List<String> rows = new ArrayList<>();
    for (int i = 0; i + 2 < document.size(); i++) {
      if (document.get(i).startsWith("## Promise ")) {
        rows.add("| " + document.get(i + 2).replace("`: ", "` | ") + " |");
      }
    }
    answers.due("promises of the document", rows.size(), 11);
    for (String row : rows) {
      answers.due(row, readme.contains(row), true);
    }
  }

  private static void example(Answers answers, String readme) {
    answers.sentence("An example, with what each call answers");
    ControlFile file = new ControlFile();
    row(answers, readme, "file.access(0x104, 1, 1 << 5);", file.access(0x104, 1, 1 << 5));
    row(answers, readme, "file.access(0x100, 2, 1 << 1);", file.access(0x100, 2, 1 << 1));
    row(answers, readme, "file.old();", file.old());
    row(answers, readme, "file.alarm(100);", file.alarm(100));
    row(answers, readme, "file.time(100);", file.time(100));
    row(answers, readme, "file.due();", file.due());
    row(answers, readme, "file.mode(3);", file.mode(3));
    row(answers, readme, "file.access(0x600, 0, 0);", file.access(0x600, 0, 0));
    row(answers, readme, "file.access(0x140, 1, 7);", file.access(0x140, 1, 7));
    row(answers, readme, "file.control(0x240);", file.control(0x240));
    row(answers, readme, "file.control(0x140);", file.control(0x140));
    row(answers, readme, "file.control(0x144);", file.control(0x144));
    row(answers, readme, "file.used();", file.used());
    answers.due("calls of the example", readme.split("\nfile\\.", -1).length - 1, 13);
  }

  private static void row(Answers answers, String readme, String call, long answer) {
    answers.due(call, answerIn(readme, call), Long.toString(answer));
  }

  private static String answerIn(String readme, String call) {
    for (String line : readme.split("\n")) {
      if (line.startsWith(call) && line.contains("// ")) {
        return line.substring(line.indexOf("// ") + 3).split(":")[0];
      }
    }
    return "nothing";
  }

  private static void howToTest(Answers answers, String readme) {
    answers.sentence("README.md says how to run its tests");
    answers.due(".ci/run", readme.contains("\n    .ci/run\n"), true);
    answers.due("a heading", readme.contains("\n## Tests\n"), true);
  }
}
