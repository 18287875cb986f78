import java.lang.reflect.Constructor;
import java.lang.reflect.Field;
import java.lang.reflect.Method;
import java.lang.reflect.Modifier;
import java.util.Arrays;
import java.util.Set;
import java.util.TreeSet;

/** The public face, and that nothing else can be seen of the class. */
public final class FaceTest {
  private static final String[] METHODS = {
    "int hash(int, int)", "long pick(int, long)", "int tries(int, long)", "int rule(int, int, int)",
    "int taken(int, int, int)", "int past(int, int)", "int fold(int, int)", "int bounding(int, int)",
    "int monotone()", "int counted(int, int)", "long trees(int)", "int once(int, int, int)",
    "int lead(int, int, int)", "int end(int, boolean)", "long words(int)", "int word(int, long, int)",
    "long rank(int, long)", "int allow(int, int, boolean)", "int permutations(int)",
    "int permutation(int, int, int)", "int place(int, int)", "int things(int)", "int weight(int, int)",
    "int cell(int, int)", "int tell(int)",
  };

  public static void main(String[] args) {
    Check.due("BAD", PastDraws.BAD, -1);
    Check.due("NONE", PastDraws.NONE, -2);
    Check.holds("the class is public and final",
        Modifier.isPublic(PastDraws.class.getModifiers()) && Modifier.isFinal(PastDraws.class.getModifiers()));
    methods();
    fields();
    constructors();
    classesInside();
    Check.finish();
  }

  private static String told(Method method) {
    StringBuilder text = new StringBuilder(method.getReturnType() + " " + method.getName() + "(");
    String sep = "";
    for (Class<?> type : method.getParameterTypes()) {
      text.append(sep).append(type);
      sep = ", ";
    }
    return text.append(")").toString();
  }

  private static Set<String> publicNames() {
    Set<String> names = new TreeSet<>();
    for (String method : METHODS) {
      names.add(method.substring(method.indexOf(' ') + 1, method.indexOf('(')));
    }
    return names;
  }

  private static void methods() {
    Set<String> due = new TreeSet<>(Arrays.asList(METHODS));
    Set<String> publicNames = publicNames();
    Set<String> found = new TreeSet<>();
    for (Method method : PastDraws.class.getDeclaredMethods()) {
      if (Modifier.isPrivate(method.getModifiers())) {
        Check.holds("private " + method.getName() + " has a name of its own", !publicNames.contains(method.getName()));
      } else {
        Check.holds(method.getName() + " is public and of the object",
            Modifier.isPublic(method.getModifiers()) && !Modifier.isStatic(method.getModifiers()));
        found.add(told(method));
      }
    }
    Check.holds("the methods are " + due + ", found are " + found, due.equals(found));
  }

  private static void fields() {
    for (Field field : PastDraws.class.getDeclaredFields()) {
      boolean isConstant = field.getName().equals("BAD") || field.getName().equals("NONE");
      Check.holds(field.getName() + " is seen just if it is told",
          isConstant ? Modifier.isPublic(field.getModifiers()) : Modifier.isPrivate(field.getModifiers()));
      Check.holds(field.getName() + " is final if it is static",
          Modifier.isFinal(field.getModifiers()) || !Modifier.isStatic(field.getModifiers()));
    }
  }

  private static void constructors() {
    Constructor<?>[] all = PastDraws.class.getDeclaredConstructors();
    Check.due("constructors", all.length, 1);
    Check.holds("PastDraws(int) is public", Modifier.isPublic(all[0].getModifiers())
        && Arrays.equals(all[0].getParameterTypes(), new Class<?>[] {int.class}));
  }

  private static void classesInside() {
    for (Class<?> inside : PastDraws.class.getDeclaredClasses()) {
      int modifiers = inside.getModifiers();
      Check.holds(inside.getName() + " is static and not public",
          Modifier.isStatic(modifiers) && !Modifier.isPublic(modifiers) && !Modifier.isProtected(modifiers));
      for (Method method : inside.getDeclaredMethods()) {
        Check.holds(inside.getName() + "." + method.getName() + " has a name of its own",
            !publicNames().contains(method.getName()));
      }
    }
  }
}
