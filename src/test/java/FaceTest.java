import java.lang.reflect.Constructor;
import java.lang.reflect.Field;
import java.lang.reflect.Method;
import java.lang.reflect.Modifier;
import java.util.Map;
import java.util.Set;
import java.util.TreeSet;

/** The face of the document, whole, and no other visible member. */
public final class FaceTest {
  private static final Set<String> METHODS = Set.of(
      "int setRule(int)", "int setLimit(int)", "int rewind(int, int, int)", "int cut(int, int)",
      "int splice(int, int)", "int close(int)", "int punch(int, int)", "int type(char)",
      "int clearText()", "int perform()", "int undo()", "int keep()", "int restore()",
      "int spool(int, int)", "int gap(int, int, int)", "int read(int, int, int)",
      "int errors(int, int, int)", "int bestWay(int)", "int errorsAfter(int, int, int, int)",
      "int safeRewinds(int, int, int)", "int event(int, int)", "int count(int)");
  private static final Map<String, Integer> CONSTANTS = Map.of(
      "UNKNOWN", -1, "BAD_VALUE", -2, "FULL", -3, "NOT_POSSIBLE", -4, "NONE", -5);

  public static void main(String[] args) throws IllegalAccessException {
    Class<?> face = StretchSpool.class;
    Due.is("modifiers", face.getModifiers(), Modifier.PUBLIC | Modifier.FINAL);
    Due.holds("no class above it", face.getSuperclass() == Object.class && face.getInterfaces().length == 0);
    methods(face);
    fields(face);
    Due.is("constructors", face.getDeclaredConstructors().length, 1);
    for (Constructor<?> maker : face.getDeclaredConstructors()) {
      Due.is("its modifiers", maker.getModifiers(), Modifier.PUBLIC);
      Due.is("its parameters", maker.getParameterCount(), 0);
    }
    for (Class<?> inside : face.getDeclaredClasses()) {
      int flags = inside.getModifiers();
      Due.holds(inside + " is static", Modifier.isStatic(flags));
      Due.holds(inside + " is hidden", !Modifier.isPublic(flags) && !Modifier.isProtected(flags));
      Due.holds(inside + " has few fields", inside.getDeclaredFields().length <= 20);
    }
    Due.holds("few classes", face.getDeclaredClasses().length < 12);
    Due.end();
  }

  private static void methods(Class<?> face) {
    Set<String> seen = new TreeSet<>();
    Set<String> publicNames = new TreeSet<>();
    for (Method method : face.getDeclaredMethods()) {
      String form = method.toGenericString().replace(face.getName() + ".", "").replace(",", ", ");
      if (Modifier.isPublic(method.getModifiers())) {
        Due.is(form + ": modifiers", method.getModifiers(), Modifier.PUBLIC);
        seen.add(form.replace("public ", ""));
        publicNames.add(method.getName());
      } else {
        Due.holds(form + " is private", Modifier.isPrivate(method.getModifiers()));
      }
    }
    Due.holds("the methods are " + seen, seen.equals(new TreeSet<>(METHODS)));
    for (Method method : face.getDeclaredMethods()) {
      if (!Modifier.isPublic(method.getModifiers())) {
        Due.holds(method + " has a name of its own", !publicNames.contains(method.getName()));
      }
    }
  }

  private static void fields(Class<?> face) throws IllegalAccessException {
    int constants = 0;
    int own = 0;
    for (Field field : face.getDeclaredFields()) {
      int flags = field.getModifiers();
      if (Modifier.isPublic(flags)) {
        constants++;
        Due.is(field + ": modifiers", flags, Modifier.PUBLIC | Modifier.STATIC | Modifier.FINAL);
        Due.is(field.getName(), field.getInt(null), CONSTANTS.getOrDefault(field.getName(), 0));
      } else {
        Due.holds(field + " is private", Modifier.isPrivate(flags));
        Due.holds(field + " is final if it is static", !Modifier.isStatic(flags) || Modifier.isFinal(flags));
        own += Modifier.isStatic(flags) ? 0 : 1;
      }
    }
    Due.is("constants", constants, CONSTANTS.size());
    Due.holds("few fields", own <= 20);
  }
}
