import java.io.IOException;
import java.lang.reflect.Method;
import java.lang.reflect.Modifier;
import java.nio.file.Files;
import java.nio.file.Path;
import java.util.List;
import java.util.regex.Matcher;
import java.util.regex.Pattern;

/** README.md tells every call, and its examples answer what their comments begin with. */
public final class LimbCurvesReadme {
  private static final Pattern MADE = Pattern.compile("= new LimbCurves\\((-?\\d+)\\);");
  private static final Pattern CALL = Pattern.compile("desk\\.(\\w+)\\(([-\\d, ]*)\\);");
  private static final Pattern COMMENT = Pattern.compile("// (true|false|-?\\d+)\\b");

  private static int wrong = 0;
  private static int compared = 0;

  private static void fault(String words) {
    wrong++;
    System.out.println("README.md: " + words);
  }

  private static int parametersOf(String given) {
    return given.isBlank() ? 0 : given.split(",").length;
  }

  private static Object call(LimbCurves desk, String name, String given)
      throws ReflectiveOperationException {
    String[] words = given.isBlank() ? new String[0] : given.split(",");
    Object[] numbers = new Object[words.length];
    Class<?>[] kinds = new Class<?>[words.length];
    for (int i = 0; i < words.length; i++) {
      numbers[i] = Integer.valueOf(words[i].trim());
      kinds[i] = int.class;
    }
    return LimbCurves.class.getMethod(name, kinds).invoke(desk, numbers);
  }

  /** What is told of a line is the answer of the last call in it. */
  private static void runLine(LimbCurves desk, String line) throws ReflectiveOperationException {
    Object answer = null;
    String rest = line;
    Matcher call = CALL.matcher(line);
    while (call.find()) {
      answer = call(desk, call.group(1), call.group(2));
      rest = rest.replace(call.group(), "");
    }
    if (answer == null || !rest.replaceFirst("//.*", "").isBlank()) {
      fault("no example can be read from: " + line);
      return;
    }
    Matcher comment = COMMENT.matcher(rest);
    if (comment.find()) {
      compared++;
      if (!answer.toString().equals(comment.group(1))) {
        fault(line + " answered " + answer);
      }
    }
  }

  private static void runExamples(List<String> lines) throws ReflectiveOperationException {
    LimbCurves desk = null;
    boolean inExample = false;
    for (String line : lines) {
      if (line.startsWith("```")) {
        inExample = line.equals("```java");
        desk = null;
        continue;
      }
      Matcher made = MADE.matcher(line);
      if (inExample && made.find()) {
        desk = new LimbCurves(Integer.parseInt(made.group(1)));
      } else if (inExample && desk != null) {
        runLine(desk, line);
      } else if (inExample) {
        fault("an example makes no object before: " + line);
      }
    }
  }

  private static boolean tells(String text, Method method) {
    Matcher told = Pattern.compile("`" + method.getName() + "\\(([a-z, ]*)\\)`").matcher(text);
    while (told.find()) {
      if (parametersOf(told.group(1)) == method.getParameterCount()) {
        return true;
      }
    }
    return false;
  }

  public static void main(String[] args) throws IOException, ReflectiveOperationException {
    List<String> lines = Files.readAllLines(Path.of("README.md"));
    runExamples(lines);
    for (Method method : LimbCurves.class.getDeclaredMethods()) {
      if ((method.getModifiers() & Modifier.PUBLIC) != 0
          && !tells(String.join("\n", lines), method)) {
        fault("the call " + method.getName() + " is not told");
      }
    }
    System.out.println(compared + " answers of examples, " + wrong + " faults");
    if (wrong != 0 || compared == 0) {
      System.exit(1);
    }
  }
}
