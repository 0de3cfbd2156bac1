import java.lang.reflect.Constructor;
import java.lang.reflect.Field;
import java.lang.reflect.Method;
import java.lang.reflect.Modifier;
import java.util.ArrayList;
import java.util.Arrays;
import java.util.List;
import java.util.Random;

/** The public face is the document's and no other, and no call of it throws. */
public final class LimbCurvesFace {
  private static final String[] METHODS = {
    "boolean addPts(int, int, int)", "boolean dbl(int, int)", "boolean feedLimb(int)",
    "boolean isInfinity(int)", "boolean isSame(int, int)", "boolean negate(int, int)",
    "boolean onCurve(int)", "boolean open()", "boolean reckon(int, int, int, int)",
    "boolean scalarMul(int, int, int)", "boolean select(int)", "int limb(int, int)", "int seal()",
    "int state(int)", "int verify(int, int, int, int, int)",
  };
  private static final int[] EDGES = {
    Integer.MIN_VALUE, Integer.MIN_VALUE + 4, -21, -13, -9, -2, -1, 20, 21, 24, 28, 31, 1 << 30,
    Integer.MAX_VALUE - 1, Integer.MAX_VALUE
  };

  private static int wrong = 0;

  private static void due(String what, Object got, Object want) {
    if (!got.equals(want)) {
      wrong++;
      System.out.println(what + ": " + got + ", due is " + want);
    }
  }

  private static String signature(Method method) {
    String types = Arrays.toString(method.getParameterTypes());
    String inside = types.substring(1, types.length() - 1);
    return method.getReturnType() + " " + method.getName() + "(" + inside + ")";
  }

  private static List<Method> publicMethods() {
    List<Method> found = new ArrayList<>();
    for (Method method : LimbCurves.class.getDeclaredMethods()) {
      if (!Modifier.isPrivate(method.getModifiers())) {
        found.add(method);
      }
    }
    found.sort((one, other) -> signature(one).compareTo(signature(other)));
    return found;
  }

  private static void face() throws IllegalAccessException {
    int kind = LimbCurves.class.getModifiers();
    due("the class", Modifier.toString(kind), "public final");
    List<String> names = new ArrayList<>();
    for (Method method : publicMethods()) {
      names.add(signature(method));
      due(method.getName(), Modifier.toString(method.getModifiers()), "public");
    }
    due("the methods", names, Arrays.asList(METHODS));
    for (Field field : LimbCurves.class.getDeclaredFields()) {
      boolean hidden = Modifier.isPrivate(field.getModifiers());
      due(field.getName() + " is private", hidden, !field.getName().equals("NONE"));
      if (!hidden) {
        due("NONE", Modifier.toString(field.getModifiers()), "public static final");
        due("NONE", field.getInt(null), -1);
      }
    }
    Constructor<?>[] makers = LimbCurves.class.getDeclaredConstructors();
    due("constructors", makers.length, 1);
    due("constructor", makers[0].toString(), "public LimbCurves(int)");
  }

  private static int draw(Random random) {
    int kind = random.nextInt(20);
    if (kind == 0) {
      return EDGES[random.nextInt(EDGES.length)];
    }
    return kind == 1 ? random.nextInt() : random.nextInt(20);
  }

  private static void noCallThrows() {
    List<Method> methods = publicMethods();
    for (int seed = 0; seed < 1500; seed++) {
      Random random = new Random(seed);
      LimbCurves desk = new LimbCurves(seed < 900 ? 1 + seed % 2 : draw(random));
      for (int call = 0; call < 512; call++) {
        Method method = methods.get(random.nextInt(methods.size()));
        Object[] given = new Object[method.getParameterCount()];
        for (int i = 0; i < given.length; i++) {
          given[i] = draw(random);
        }
        try {
          method.invoke(desk, given);
        } catch (ReflectiveOperationException fault) {
          wrong++;
          String text = method.getName() + Arrays.toString(given);
          System.out.println("seed " + seed + ": " + text + " threw " + fault.getCause());
        }
      }
    }
  }

  public static void main(String[] args) throws IllegalAccessException {
    face();
    noCallThrows();
    System.out.println(wrong == 0 ? "the face is as due" : wrong + " faults");
    if (wrong != 0) {
      System.exit(1);
    }
  }
}
