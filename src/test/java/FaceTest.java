import java.lang.reflect.Constructor;
import java.lang.reflect.Field;
import java.lang.reflect.Method;
import java.lang.reflect.Modifier;
import java.util.Set;
import java.util.TreeSet;

/** The face of the class is the document's, and nothing besides it can be seen from outside. */
public final class FaceTest {
  private static final String[] FACE = {
    "int alter(int,int)", "int back()", "int bring(int)", "int chair(int,int)", "int code(int,int)",
    "int comes(int,int,int)", "int could(int,int)", "int count(int)", "int evening(int,int,int)", "int fault()",
    "int forget()", "int hangs(int)", "int keep()", "int kinds(int)", "int knit(int,int)", "int lay()", "int lies()",
    "int meet(int,int)", "int message(int,int)", "int out(int,int)", "int pass(int)", "int rain(int)",
    "int see(int,int,int)", "int send(int,int)", "int slips(int,int,int,int)", "int undo()", "int wipe()",
    "int write(int)",
  };

  private static int wrong = 0;

  private static void due(String what, Object got, Object want) {
    if (got.equals(want)) return;
    wrong++;
    System.out.println(what + " is " + got + ", due is " + want);
  }

  private static String told(Method method) {
    StringBuilder told = new StringBuilder(method.getReturnType() + " " + method.getName() + "(");
    for (Class<?> type : method.getParameterTypes()) {
      told.append(told.charAt(told.length() - 1) == '(' ? "" : ",").append(type);
    }
    return told.append(")").toString();
  }

  public static void main(String[] args) {
    Class<?> it = NeedleTelegraph.class;
    due("the class is public", Modifier.isPublic(it.getModifiers()), true);
    due("the class is final", Modifier.isFinal(it.getModifiers()), true);
    due("constructors", it.getDeclaredConstructors().length, 1);
    for (Constructor<?> made : it.getDeclaredConstructors()) {
      due("the constructor is public", Modifier.isPublic(made.getModifiers()), true);
      due("its parameters", made.getParameterCount(), 0);
    }

    Set<String> methods = new TreeSet<>();
    Set<String> names = new TreeSet<>();
    for (Method method : it.getDeclaredMethods()) {
      if (Modifier.isPrivate(method.getModifiers())) continue;
      due(method + " is public", Modifier.isPublic(method.getModifiers()), true);
      due(method + " is static", Modifier.isStatic(method.getModifiers()), false);
      methods.add(told(method));
      names.add(method.getName());
    }
    due("the methods", methods, new TreeSet<>(Set.of(FACE)));

    Set<String> fields = new TreeSet<>();
    for (Field field : it.getDeclaredFields()) {
      boolean isStatic = Modifier.isStatic(field.getModifiers());
      if (isStatic) due(field + " is final", Modifier.isFinal(field.getModifiers()), true);
      if (Modifier.isPrivate(field.getModifiers())) continue;
      due(field + " is public and static", Modifier.isPublic(field.getModifiers()) && isStatic, true);
      fields.add(field.getName());
    }
    due("the constants", fields, new TreeSet<>(Set.of("BAD", "NO", "FULL", "NONE")));

    for (Class<?> inside : it.getDeclaredClasses()) {
      due(inside + " is private", Modifier.isPrivate(inside.getModifiers()), true);
      due(inside + " is static", Modifier.isStatic(inside.getModifiers()), true);
      for (Method method : inside.getDeclaredMethods()) {
        due(method + " bears a name of the face", names.contains(method.getName()), false);
      }
    }
    due("there are at most 12 classes", it.getDeclaredClasses().length <= 11, true);

    System.out.println(wrong == 0 ? "the face is as due" : wrong + " things of the face are not as due");
    if (wrong != 0) System.exit(1);
  }
}
