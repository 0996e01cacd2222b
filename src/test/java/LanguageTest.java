import java.io.DataInputStream;
import java.io.IOException;
import java.io.InputStream;
import java.lang.reflect.Executable;
import java.lang.reflect.Field;
import java.lang.reflect.Method;
import java.lang.reflect.Modifier;
import java.util.ArrayList;
import java.util.List;

/**
 * What of ../shared/LANGUAGE.md can be told from the compiled class: rules 2, 3, 4, 5, 6, 11 (rule 1 is
 * FaceTest's, rule 12 SmallTest's). The others are kept by reading.
 */
public final class LanguageTest {
  private static final String NUMBERS = "[BCDFIJSZ]";

  /** Rule 4, and the constructors of rule 6, as owner.name:type; descriptors tell which Math functions. */
  private static final String[] LIBRARY = {
    "java/lang/(Object|Record|Enum)\\.<init>:.*",
    "java/lang/Enum\\.(valueOf|ordinal|name):.*",
    "java/lang/String\\.(length|charAt|isEmpty|equals|substring|toCharArray):.*",
    "java/lang/String\\.indexOf:\\(I\\)I",
    "java/lang/String\\.<init>:\\(\\[C\\)V",
    "java/lang/StringBuilder\\.(<init>|charAt|setCharAt|setLength|deleteCharAt|reverse|length|toString):.*",
    "java/lang/StringBuilder\\.append:\\((C|I|Ljava/lang/String;)\\).*",
    "java/util/(ArrayList|List)\\.(<init>|add|get|set|size|isEmpty|clear|iterator|of):.*",
    "java/util/(ArrayList|List)\\.remove:\\(I\\).*",
    "java/util/Iterator\\.(hasNext|next):.*",
    "java/lang/Integer\\.(valueOf|intValue):.*",
    "java/lang/(Integer|Long|Math)\\.(?!.*Exact)\\w+:\\([IJ]+\\)[IJ]",
    "java/lang/System\\.arraycopy:.*",
    "java/util/Arrays\\.(copyOf|copyOfRange|fill):\\(\\[" + NUMBERS + ".*",
    "\\[.*\\.clone:.*",
    "java/(lang|util)/(IllegalState|IllegalArgument|IndexOutOfBounds|Arithmetic|UnsupportedOperation|NoSuchElement"
        + "|Runtime)Exception\\.<init>:\\((Ljava/lang/String;)?\\)V"
  };

  public static void main(String[] args) throws IOException {
    List<Class<?>> classes = new ArrayList<>(List.of(ClerestoryPlan.class));
    for (int i = 0; i < classes.size(); i++) {
      classes.addAll(List.of(classes.get(i).getDeclaredClasses()));
    }
    Due.is("rule 11: at most twelve classes", classes.size() <= 12, true);
    for (Class<?> each : classes) {
      fields(each);
      methods(each);
      new Pool(each).check();
    }
    Due.end();
  }

  private static void fields(Class<?> its) {
    int own = 0;
    for (Field field : its.getDeclaredFields()) {
      Due.is("rule 3: the type of " + field, isAllowed(field.getType()), true);
      if (!Modifier.isStatic(field.getModifiers())) {
        own++;
      } else if (!field.isSynthetic()) {
        Due.is("rule 5: final is " + field, Modifier.isFinal(field.getModifiers()), true);
        Due.is("rule 5: the type of " + field, isConstant(field.getType()), true);
      }
    }
    Due.is("rule 11: at most twenty fields in " + its.getName(), own <= 20, true);
  }

  private static boolean isAllowed(Class<?> type) {
    String own = "LClerestoryPlan\\$\\w+;";
    return type.descriptorString().matches("\\[{0,2}" + NUMBERS + "|\\[?" + own
        + "|Ljava/lang/(String|StringBuilder|Integer);|Ljava/util/(Array)?List;");
  }

  private static boolean isConstant(Class<?> type) {
    Class<?> part = type.isArray() ? type.getComponentType() : type;
    return part.isEnum() || type.descriptorString().matches("[IJZC]|Ljava/lang/String;|\\[[IJCB]");
  }

  private static void methods(Class<?> its) {
    List<Executable> all = new ArrayList<>(List.of(its.getDeclaredConstructors()));
    for (Method method : its.getDeclaredMethods()) {
      all.add(method);
      if (!its.isRecord()) {
        Due.is("rule 6: the name of " + method, method.getName().matches("equals|hashCode|toString"), false);
      }
      Due.is("rule 6: synchronized is " + method, Modifier.isSynchronized(method.getModifiers()), false);
    }
    for (Executable each : all) {
      Due.is("rule 11: at most seven parameters has " + each, each.getParameterCount() <= 7, true);
    }
  }

  /** The constant pool of a class file: all that its code names and its texts (a record's has more of its own). */
  private static final class Pool {
    private final String name;
    private final boolean isRecord;
    private final int[] tags;
    private final int[] first;
    private final int[] second;
    private final String[] texts;

    Pool(Class<?> its) throws IOException {
      name = its.getName();
      isRecord = its.isRecord();
      try (InputStream file = its.getResourceAsStream("/" + name + ".class");
          DataInputStream in = new DataInputStream(file)) {
        in.readInt();
        in.readInt();
        int count = in.readUnsignedShort();
        tags = new int[count];
        first = new int[count];
        second = new int[count];
        texts = new String[count];
        for (int i = 1; i < count; i++) {
          read(in, i);
          i += tags[i] == 5 || tags[i] == 6 ? 1 : 0;
        }
      }
    }

    private void read(DataInputStream in, int at) throws IOException {
      tags[at] = in.readUnsignedByte();
      switch (tags[at]) {
        case 1 -> texts[at] = in.readUTF();
        case 3, 4 -> in.readInt();
        case 5, 6 -> in.readLong();
        case 7, 8, 16, 19, 20 -> first[at] = in.readUnsignedShort();
        case 15 -> {
          in.readUnsignedByte();
          in.readUnsignedShort();
        }
        default -> {
          first[at] = in.readUnsignedShort();
          second[at] = in.readUnsignedShort();
        }
      }
    }

    void check() {
      for (int i = 1; i < tags.length && !isRecord; i++) {
        if (tags[i] == 9 || tags[i] == 10 || tags[i] == 11) {
          String used = text(first[i]) + "." + texts[first[second[i]]] + ":" + texts[second[second[i]]];
          Due.is("rule 4: " + name + " may use " + used, isOfLibrary(used), true);
        }
        if (tags[i] == 8) {
          Due.is("rule 4: " + name + " may hold the text " + text(i), text(i).matches("[\\x01-\\x7f]*"), true);
        }
        boolean isDynamic = tags[i] == 15 || tags[i] == 16 || tags[i] == 17 || tags[i] == 18;
        Due.is("rules 2 and 10: " + name + " has a lambda or joins texts by +", isDynamic, false);
      }
    }

    private String text(int at) {
      return texts[first[at]];
    }

    private static boolean isOfLibrary(String used) {
      if (used.matches("ClerestoryPlan(\\$\\w+)?\\..*")) {
        return true;
      }
      for (String allowed : LIBRARY) {
        if (used.matches(allowed)) {
          return true;
        }
      }
      return false;
    }
  }
}
