import java.lang.reflect.Constructor;
import java.lang.reflect.Field;
import java.lang.reflect.Method;
import java.lang.reflect.Modifier;
import java.util.Arrays;
import java.util.TreeSet;

/** The class shows the face of the document and nothing beside it. */
public final class FaceTest {
  private static final String IAE = " throws java.lang.IllegalArgumentException";
  private static final String ISE = "java.lang.IllegalStateException";
  private static final String IOOBE = "java.lang.IndexOutOfBoundsException";
  private static final String REGISTER = " throws java.util.NoSuchElementException," + ISE;

  private static final String[] FACE = {
    "int lines(int)",
    "void ticks(int)" + IAE,
    "int load(int)" + IAE + "," + IOOBE,
    "void store(int,int)" + IAE + "," + IOOBE + ",java.lang.UnsupportedOperationException",
    "long access(int,boolean,int)",
    "int read(int)" + REGISTER,
    "void write(int,int)" + REGISTER,
    "int step()",
    "int raise(int)" + IAE,
    "int leave(boolean) throws " + ISE,
    "int privilege()",
    "int pc()",
    "int due()",
    "int source(int) throws " + IOOBE,
  };

  private static String told(Method method) {
    String thrown = names(method.getExceptionTypes());
    return method.getReturnType().getName()
        + " " + method.getName()
        + "(" + names(method.getParameterTypes()) + ")"
        + (thrown.isEmpty() ? "" : " throws " + thrown);
  }

  private static String names(Class<?>[] kinds) {
    StringBuilder names = new StringBuilder();
    for (Class<?> kind : kinds) {
      names.append(names.length() == 0 ? "" : ",").append(kind.getName());
    }
    return names.toString();
  }

  private static void testMethods() {
    TreeSet<String> shown = new TreeSet<>();
    TreeSet<String> publicNames = new TreeSet<>();
    for (Method method : TrapHart.class.getDeclaredMethods()) {
      if (!Modifier.isPrivate(method.getModifiers())) {
        shown.add((Modifier.isPublic(method.getModifiers()) ? "" : "not public: ") + told(method));
        publicNames.add(method.getName());
      }
    }
    Check.same("methods", shown.toString(), new TreeSet<>(Arrays.asList(FACE)).toString());
    for (Method method : TrapHart.class.getDeclaredMethods()) {
      if (Modifier.isPrivate(method.getModifiers()) && publicNames.contains(method.getName())) {
        Check.fail("a private method bears the public name " + method.getName());
      }
    }
  }

  private static void testTheRest() {
    Check.is("final", TrapHart.class.getModifiers(), Modifier.PUBLIC | Modifier.FINAL);
    Constructor<?>[] made = TrapHart.class.getDeclaredConstructors();
    Check.is("constructors", made.length, 1);
    Check.same("constructor", made[0].toString(), "public TrapHart(int)");
    for (Field field : TrapHart.class.getDeclaredFields()) {
      if (!Modifier.isPrivate(field.getModifiers())) {
        Check.fail("the field " + field.getName() + " is not private");
      }
    }
  }

  private static void testClassesInside() {
    for (Class<?> inside : TrapHart.class.getDeclaredClasses()) {
      if (!Modifier.isStatic(inside.getModifiers()) || !Modifier.isPrivate(inside.getModifiers())) {
        Check.fail("the class " + inside.getName() + " is not private and static");
      }
    }
  }

  public static void main(String[] args) {
    testMethods();
    testTheRest();
    testClassesInside();
    Check.end("FaceTest");
  }
}
