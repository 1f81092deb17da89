import java.io.DataInputStream;
import java.io.IOException;
import java.io.InputStream;
import java.lang.reflect.Field;
import java.lang.reflect.Method;
import java.lang.reflect.Modifier;
import java.util.ArrayDeque;
import java.util.Deque;
import java.util.Set;
import java.util.TreeSet;

/** What the compiled class tells of LANGUAGE.md: the library that it calls, its static fields, its sizes. */
public final class LanguageTest {
  private static final String OWN = "NeedleTelegraph";
  private static final int MOST_PARAMETERS = 7, MOST_FIELDS = 20;

  /** Rule 4, and the constructor that every class calls. */
  private static final Set<String> LIBRARY = Set.of(
      "java/lang/Object.<init>", "java/lang/String.length", "java/lang/String.charAt", "java/lang/String.isEmpty",
      "java/lang/String.equals", "java/lang/String.indexOf", "java/lang/String.substring",
      "java/lang/String.toCharArray", "java/lang/Integer.bitCount", "java/lang/Integer.compare",
      "java/lang/Math.max", "java/lang/Math.min", "java/lang/Math.abs", "java/lang/Math.floorDiv",
      "java/lang/Math.floorMod", "java/lang/System.arraycopy", "java/util/Arrays.copyOf",
      "java/util/Arrays.copyOfRange", "java/util/Arrays.fill");

  private static int wrong = 0;

  private static void due(boolean isSo, String what) {
    if (isSo) return;
    wrong++;
    System.out.println("not so: " + what);
  }

  /** The entries of a class file's constant pool, each kept as the JVM's format tells it. */
  private static final class Pool {
    private final int[] tags;
    private final int[] firsts;
    private final int[] seconds;
    private final String[] texts;

    Pool(DataInputStream in) throws IOException {
      in.readInt();
      in.readInt();
      int size = in.readUnsignedShort();
      tags = new int[size];
      firsts = new int[size];
      seconds = new int[size];
      texts = new String[size];
      for (int i = 1; i < size; i++) {
        read(in, i);
        // A long or a double takes two places.
        if (tags[i] == 5 || tags[i] == 6) i++;
      }
    }

    private void read(DataInputStream in, int i) throws IOException {
      tags[i] = in.readUnsignedByte();
      switch (tags[i]) {
        case 1: texts[i] = in.readUTF(); break;
        case 3: case 4: in.readInt(); break;
        case 5: case 6: in.readLong(); break;
        case 7: case 8: case 16: case 19: case 20: firsts[i] = in.readUnsignedShort(); break;
        case 15: in.readUnsignedByte(); in.readUnsignedShort(); break;
        default: firsts[i] = in.readUnsignedShort(); seconds[i] = in.readUnsignedShort(); break;
      }
    }

    /** Fields and methods of other classes, by class and name; and what is put together only as it runs. */
    Set<String> foreign() {
      Set<String> foreign = new TreeSet<>();
      for (int i = 1; i < tags.length; i++) {
        if (tags[i] == 17 || tags[i] == 18) foreign.add("a lambda, a method reference, or texts joined by +");
        if (tags[i] < 9 || tags[i] > 11) continue;
        String owner = texts[firsts[firsts[i]]];
        if (!isOwn(owner)) foreign.add(owner + "." + texts[firsts[seconds[i]]]);
      }
      return foreign;
    }
  }

  private static boolean isOwn(String name) {
    String bare = name.replaceAll("^\\[+L?|;$", "");
    return bare.equals(OWN) || bare.startsWith(OWN + "$");
  }

  private static void lookAtLibrary(Class<?> it) throws IOException {
    try (InputStream file = it.getResourceAsStream("/" + it.getName() + ".class")) {
      for (String called : new Pool(new DataInputStream(file)).foreign()) {
        due(LIBRARY.contains(called), it.getName() + " calls only the library of rule 4, not " + called);
      }
    }
  }

  private static void lookAtMembers(Class<?> it) {
    int fields = 0;
    for (Field field : it.getDeclaredFields()) {
      boolean isStatic = Modifier.isStatic(field.getModifiers());
      due(!isStatic || Modifier.isFinal(field.getModifiers()), field + " is final (rule 5)");
      fields += isStatic ? 0 : 1;
    }
    due(fields <= MOST_FIELDS, it.getName() + " has at most " + MOST_FIELDS + " fields (rule 11)");
    for (Method method : it.getDeclaredMethods()) {
      due(method.getParameterCount() <= MOST_PARAMETERS, method + " takes at most seven (rule 11)");
      due(method.getExceptionTypes().length == 0, method + " declares no exception (rule 6)");
      due((method.getModifiers() & (Modifier.SYNCHRONIZED | Modifier.NATIVE)) == 0, method + " is plain (rule 6)");
    }
  }

  public static void main(String[] args) throws IOException {
    Deque<Class<?>> classes = new ArrayDeque<>();
    classes.add(NeedleTelegraph.class);
    int looked = 0;
    while (!classes.isEmpty()) {
      Class<?> it = classes.remove();
      lookAtLibrary(it);
      lookAtMembers(it);
      for (Class<?> inside : it.getDeclaredClasses()) classes.add(inside);
      looked++;
    }
    due(looked > 1, "there are classes inside");
    System.out.println(wrong == 0 ? looked + " classes keep to the language" : wrong + " things are not so");
    if (wrong != 0) System.exit(1);
  }
}
