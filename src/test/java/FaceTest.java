import java.lang.reflect.Constructor;
import java.lang.reflect.Field;
import java.lang.reflect.Method;
import java.lang.reflect.Modifier;
import java.util.ArrayList;
import java.util.Arrays;
import java.util.List;
import java.util.Set;
import java.util.TreeSet;

/** The public face: each signature with its exceptions, and nothing else that can be seen from outside. */
public final class FaceTest {
  private static final String[] FACE = {
    "int addRoom(int int int int int int) IllegalArgumentException IllegalStateException",
    "int removeRoom(int) IndexOutOfBoundsException",
    "int setPeople(int int) IndexOutOfBoundsException IllegalArgumentException",
    "int addDoor(int int int int boolean int)"
        + " IndexOutOfBoundsException IllegalArgumentException IllegalStateException",
    "int addWindow(int int int boolean int)"
        + " IndexOutOfBoundsException IllegalArgumentException IllegalStateException",
    "int addStairs(int int int int)"
        + " IndexOutOfBoundsException IllegalArgumentException IllegalStateException",
    "boolean shut(int boolean) IndexOutOfBoundsException",
    "int removeDoor(int) IndexOutOfBoundsException",
    "int setLimit(int int) IndexOutOfBoundsException IllegalArgumentException",
    "int rooms()", "int doors()", "int stairs()",
    "int roomAt(int int int) IllegalArgumentException",
    "boolean areJoined(int int) IndexOutOfBoundsException",
    "boolean isLost(int) IndexOutOfBoundsException",
    "int farWay(int) IndexOutOfBoundsException",
    "int leaving(int) IndexOutOfBoundsException",
    "int middleWay(int) IndexOutOfBoundsException",
    "int depth(int) IndexOutOfBoundsException",
    "int way(int boolean) IndexOutOfBoundsException",
    "int load(int) IndexOutOfBoundsException",
    "int stairsLoad(int) IndexOutOfBoundsException",
    "int timeOut()",
    "int left(int) IllegalArgumentException",
    "int inRoom(int int) IndexOutOfBoundsException IllegalArgumentException",
    "int faults()",
    "int ruleOf(int) IndexOutOfBoundsException",
    "int whereOf(int) IndexOutOfBoundsException",
    "int howMuch(int) IndexOutOfBoundsException",
    "int broken(int) IndexOutOfBoundsException",
    "double meanWay()",
    "int faultsWith(int) IndexOutOfBoundsException",
    "int lostWithout(int) IndexOutOfBoundsException",
    "int timeWith(int int) IndexOutOfBoundsException IllegalArgumentException",
    "int mostPeople(int) IndexOutOfBoundsException",
    "long digest()"
  };

  public static void main(String[] args) {
    Class<?> face = ClerestoryPlan.class;
    Due.is("modifiers of the class", face.getModifiers(), Modifier.PUBLIC | Modifier.FINAL);
    Due.is("what it extends", face.getSuperclass().getName(), "java.lang.Object");
    methods(face);
    for (Field field : face.getDeclaredFields()) {
      Due.is("field " + field.getName() + " is private", Modifier.isPrivate(field.getModifiers()), true);
    }
    Constructor<?>[] constructors = face.getDeclaredConstructors();
    Due.is("constructors", constructors.length, 1);
    Due.is("its arguments", constructors[0].getParameterCount(), 0);
    Due.is("it is public", Modifier.isPublic(constructors[0].getModifiers()), true);
    Due.end();
  }

  private static void methods(Class<?> face) {
    Set<String> seen = new TreeSet<>();
    Set<String> seenNames = new TreeSet<>();
    List<Method> hidden = new ArrayList<>(List.of());
    for (Method method : face.getDeclaredMethods()) {
      if (Modifier.isPublic(method.getModifiers())) {
        seen.add(signature(method));
        seenNames.add(method.getName());
        Due.is(method.getName() + " is not static", Modifier.isStatic(method.getModifiers()), false);
      } else if (!method.isSynthetic()) {
        hidden.add(method);
      }
    }
    Due.is("the face", String.join("\n", seen), String.join("\n", new TreeSet<>(Arrays.asList(FACE))));
    for (Class<?> inside : face.getDeclaredClasses()) {
      Due.is(inside.getName() + " is static", Modifier.isStatic(inside.getModifiers()), true);
      Due.is(inside.getName() + " is public", Modifier.isPublic(inside.getModifiers()), false);
      for (Method method : inside.getDeclaredMethods()) {
        Due.is(method + " bears a public name", seenNames.contains(method.getName()), false);
      }
    }
    for (Method method : hidden) {
      Due.is(method + " is private", Modifier.isPrivate(method.getModifiers()), true);
      Due.is(method + " bears a public name", seenNames.contains(method.getName()), false);
    }
  }

  private static String signature(Method method) {
    StringBuilder text = new StringBuilder(method.getReturnType().getName());
    text.append(' ').append(method.getName()).append('(');
    for (int i = 0; i < method.getParameterCount(); i++) {
      text.append(i == 0 ? "" : " ").append(method.getParameterTypes()[i].getName());
    }
    text.append(')');
    for (Class<?> exception : method.getExceptionTypes()) {
      text.append(' ').append(exception.getSimpleName());
    }
    return text.toString();
  }
}
