import java.lang.reflect.Constructor;
import java.lang.reflect.Field;
import java.lang.reflect.Method;
import java.lang.reflect.Modifier;
import java.util.Set;
import java.util.TreeSet;

/** The face: what the document lists is there, and nothing else can be seen. */
public final class FaceTest {
  private static final Set<String> FACE = Set.of(
      "public ControlFile()",
      "public void ControlFile.begin()",
      "public int ControlFile.mode(int)",
      "public long ControlFile.time(long)",
      "public long ControlFile.alarm(long)",
      "public boolean ControlFile.line(boolean)",
      "public int ControlFile.access(int,int,int)",
      "public int ControlFile.old()",
      "public int ControlFile.control(int)",
      "public int ControlFile.used()",
      "public int ControlFile.due()",
      "public static final int ControlFile.BAD",
      "public static final int ControlFile.ILLEGAL",
      "public static final int ControlFile.VIRTUAL");

  public static void main(String[] args) {
    Answers answers = new Answers();
    answers.sentence("The public face");
    Set<String> seen = visibleMembers();
    for (String member : FACE) {
      answers.due("is there: " + member, seen.contains(member), true);
    }
    for (String member : seen) {
      answers.due("is of the document: " + member, FACE.contains(member), true);
    }
    answers.sentence("public final class ControlFile");
    int modifiers = ControlFile.class.getModifiers();
    answers.due("final", Modifier.isFinal(modifiers), true);
    answers.due("public", Modifier.isPublic(modifiers), true);
    answers.sentence("BAD = -1, ILLEGAL = 2, VIRTUAL = 22");
    answers.due("BAD", ControlFile.BAD, -1);
    answers.due("ILLEGAL", ControlFile.ILLEGAL, 2);
    answers.due("VIRTUAL", ControlFile.VIRTUAL, 22);
    answers.end();
  }

  private static Set<String> visibleMembers() {
    Set<String> seen = new TreeSet<>();
    for (Constructor<?> c : ControlFile.class.getDeclaredConstructors()) {
      addVisible(seen, c.getModifiers(), c.toString());
    }
    for (Method m : ControlFile.class.getDeclaredMethods()) {
      addVisible(seen, m.getModifiers(), m.toString());
    }
    for (Field f : ControlFile.class.getDeclaredFields()) {
      addVisible(seen, f.getModifiers(), f.toString());
    }
    return seen;
  }

  private static void addVisible(Set<String> seen, int modifiers, String member) {
    if (!Modifier.isPrivate(modifiers)) {
      seen.add(member);
    }
  }
}
