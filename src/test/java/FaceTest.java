import java.lang.reflect.Constructor;
import java.lang.reflect.Field;
import java.lang.reflect.Method;
import java.lang.reflect.Modifier;
import java.util.Arrays;
import java.util.TreeSet;

/** The class has the members of the document's face, with their exceptions, and no others. */
public final class FaceTest {
  private static final String[] FACE = {
    "int begin(int, int) IllegalArgumentException",
    "int setDatum(int, int) IndexOutOfBoundsException IllegalArgumentException"
        + " IllegalStateException",
    "int join(int, int) IllegalArgumentException IllegalStateException",
    "int setLosses(int, int) IndexOutOfBoundsException IllegalArgumentException",
    "int setWait(int, int) IndexOutOfBoundsException IllegalArgumentException",
    "int send(int) IllegalArgumentException IllegalStateException",
    "int round() IllegalStateException",
    "int sent()",
    "int receivers()",
    "int reports()",
    "int keptBack()",
    "int has(int) IndexOutOfBoundsException",
    "int need(int) IndexOutOfBoundsException",
    "boolean isDropped(int) IndexOutOfBoundsException",
    "int badRounds(int) IndexOutOfBoundsException",
    "int times(int, int) IllegalArgumentException",
    "int packet(int) IndexOutOfBoundsException",
    "int rebuilt(int, int) IndexOutOfBoundsException IllegalStateException",
    "int rebuiltByElimination(int, int) IndexOutOfBoundsException IllegalStateException",
  };

  private FaceTest() {}

  public static void main(String[] args) {
    Checks.part("the face");
    Class<?> face = RepairSender.class;
    Checks.due("public and final", true, face.getModifiers() == (Modifier.PUBLIC | Modifier.FINAL));
    Checks.due("nothing above it", true, face.getSuperclass() == Object.class);
    Checks.due("no interfaces", 0, face.getInterfaces().length);
    Constructor<?>[] constructors = face.getDeclaredConstructors();
    Checks.due("constructors", 1, constructors.length);
    Checks.due("a public one", true, Modifier.isPublic(constructors[0].getModifiers()));
    Checks.due("without arguments", 0, constructors[0].getParameterCount());
    checkMethods(face);
    for (Field field : face.getDeclaredFields()) {
      Checks.due(field + " is private", true, Modifier.isPrivate(field.getModifiers()));
      boolean changes = Modifier.isStatic(field.getModifiers())
          && !Modifier.isFinal(field.getModifiers());
      Checks.due(field + " is no static state", false, changes);
    }
    for (Class<?> inside : face.getDeclaredClasses()) {
      int access = inside.getModifiers() & (Modifier.PUBLIC | Modifier.PROTECTED);
      Checks.due(inside + " is not for others", 0, access);
    }
    Checks.end();
  }

  private static void checkMethods(Class<?> face) {
    TreeSet<String> names = new TreeSet<>();
    TreeSet<String> found = new TreeSet<>();
    for (Method method : face.getDeclaredMethods()) {
      if (!Modifier.isPrivate(method.getModifiers())) {
        Checks.due(method + " is just public", Modifier.PUBLIC, method.getModifiers());
        names.add(method.getName());
        found.add(line(method));
      }
    }
    TreeSet<String> wanted = new TreeSet<>(Arrays.asList(FACE));
    for (String line : wanted) {
      Checks.due(line + " is there", true, found.contains(line));
    }
    for (String line : found) {
      Checks.due(line + " is wanted", true, wanted.contains(line));
    }
    for (Method method : face.getDeclaredMethods()) {
      boolean hides = Modifier.isPrivate(method.getModifiers()) && names.contains(method.getName());
      Checks.due(method + " bears the name of a public one", false, hides);
    }
  }

  private static String line(Method method) {
    StringBuilder line = new StringBuilder(method.getReturnType().getName());
    line.append(' ').append(method.getName()).append('(');
    String separator = "";
    for (Class<?> type : method.getParameterTypes()) {
      line.append(separator).append(type.getName());
      separator = ", ";
    }
    line.append(')');
    for (Class<?> type : method.getExceptionTypes()) {
      line.append(' ').append(type.getSimpleName());
    }
    return line.toString();
  }
}
