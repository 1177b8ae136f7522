import java.io.ByteArrayOutputStream;
import java.io.IOException;
import java.io.PrintStream;
import java.lang.reflect.Field;
import java.lang.reflect.Method;
import java.lang.reflect.Modifier;
import java.net.URL;
import java.net.URLClassLoader;
import java.nio.file.Files;
import java.nio.file.Path;
import java.util.regex.Matcher;
import java.util.regex.Pattern;
import javax.tools.ToolProvider;

/** What README.md says of the class: its example, its table of calls and its table of constants. */
public final class ReadmeTest {
  public static void main(String[] args) throws IOException, ReflectiveOperationException {
    String readme = Files.readString(Path.of(System.getProperty("stretchspool.readme", "README.md")));
    example(readme);
    calls(readme);
    constants(readme);
    Due.end();
  }

  /** Each line that prints has the number that is printed ahead of all else in its comment. */
  private static void example(String readme) throws IOException, ReflectiveOperationException {
    Matcher block = Pattern.compile("(?s)```java\n(.*?)```").matcher(readme);
    boolean found = block.find();
    Due.holds("README.md has an example", found);
    String source = found ? block.group(1) : "";
    String[] printed = printedBy(source).strip().split("\\R");
    Matcher line = Pattern.compile("println\\((.*)\\); +// (-?\\d+):").matcher(source);
    int lines = 0;
    while (line.find()) {
      String got = lines < printed.length ? printed[lines] : "nothing";
      Due.holds(line.group(1) + " answered " + got + ", README.md says " + line.group(2), got.equals(line.group(2)));
      lines++;
    }
    Due.is("lines that are printed", printed.length, lines);
    Due.holds("the example prints", lines > 0);
  }

  private static String printedBy(String source) throws IOException, ReflectiveOperationException {
    Path place = Files.createTempDirectory("readme");
    Path file = Files.writeString(place.resolve("Example.java"), source);
    String classes = System.getProperty("java.class.path");
    int status = ToolProvider.getSystemJavaCompiler().run(null, null, null, "-cp", classes, "-d", place.toString(), file.toString());
    Due.is("javac of the example", status, 0);
    PrintStream before = System.out;
    ByteArrayOutputStream printed = new ByteArrayOutputStream();
    try (URLClassLoader loader = new URLClassLoader(new URL[] {place.toUri().toURL()})) {
      System.setOut(new PrintStream(printed, true));
      loader.loadClass("Example").getMethod("main", String[].class).invoke(null, (Object) new String[0]);
    } finally {
      System.setOut(before);
      Files.deleteIfExists(place.resolve("Example.class"));
      Files.deleteIfExists(file);
      Files.deleteIfExists(place);
    }
    return printed.toString();
  }

  private static void calls(String readme) {
    for (Method method : StretchSpool.class.getDeclaredMethods()) {
      if (Modifier.isPublic(method.getModifiers())) {
        Matcher row = Pattern.compile("(?m)^\\| `" + method.getName() + "\\(([^)]*)\\)`").matcher(readme);
        boolean found = row.find();
        Due.holds("README.md has a row for " + method.getName(), found);
        String arguments = found ? row.group(1) : "";
        int named = arguments.isEmpty() ? 0 : arguments.split(", ").length;
        Due.is("the arguments that README.md names of " + method.getName(), named, method.getParameterCount());
      }
    }
  }

  private static void constants(String readme) throws IllegalAccessException {
    for (Field field : StretchSpool.class.getDeclaredFields()) {
      if (Modifier.isPublic(field.getModifiers())) {
        String row = "| `" + field.getName() + "` | " + field.getInt(null) + " | ";
        Due.holds("README.md has the row " + row, readme.contains(row));
      }
    }
  }
}
