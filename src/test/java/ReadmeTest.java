import java.io.IOException;
import java.lang.reflect.Method;
import java.lang.reflect.Modifier;
import java.net.URL;
import java.net.URLClassLoader;
import java.nio.file.Files;
import java.nio.file.Path;
import java.util.ArrayList;
import java.util.List;
import java.util.Set;
import java.util.TreeSet;
import java.util.regex.Matcher;
import java.util.regex.Pattern;
import javax.tools.JavaCompiler;
import javax.tools.ToolProvider;

/** Compiles the Java that README.md shows and looks whether each call answers as it says there. */
public final class ReadmeTest {
  private static final Pattern FENCE = Pattern.compile("```java\n(.*?)```", Pattern.DOTALL);
  private static final Pattern SHOWN = Pattern.compile("(w\\.(\\w+)\\(.*\\)); +// (-?\\d+)(:.*)?");
  private static final String HEAD = "public final class ReadmeSample {\n"
      + "  static int wrong = 0;\n"
      + "  static void due(String call, long got, long want) {\n"
      + "    if (got == want) return;\n"
      + "    wrong++;\n"
      + "    System.out.println(\"README.md: \" + call + \" answered \" + got + \", shown is \" + want);\n"
      + "  }\n";
  private static final Set<String> seen = new TreeSet<>();
  private static int wrong = 0;

  private static void fault(String what) {
    wrong++;
    System.out.println("README.md: " + what);
  }

  private static String asTest(String line) {
    Matcher shown = SHOWN.matcher(line);
    if (!shown.matches()) {
      if (line.startsWith("w.")) fault("a call without its answer: " + line);
      return line;
    }
    seen.add(shown.group(2));
    String call = shown.group(1);
    return "due(\"" + call.replace("\"", "\\\"") + "\", " + call + ", " + shown.group(3) + "L);";
  }

  private static String sample(String page) {
    StringBuilder members = new StringBuilder();
    StringBuilder body = new StringBuilder();
    Matcher fences = FENCE.matcher(page);
    while (fences.find()) {
      String code = fences.group(1);
      if (code.startsWith("static ")) {
        members.append(code);
        continue;
      }
      for (String line : code.split("\n")) body.append(asTest(line)).append('\n');
    }
    return HEAD + members + "public static int run() {\n" + body + "return wrong;\n}\n}\n";
  }

  private static void allCallsAreShown() {
    for (Method m : DrawerWall.class.getDeclaredMethods()) {
      boolean isCall = Modifier.isPublic(m.getModifiers());
      if (isCall && !seen.contains(m.getName())) fault("no answer is shown of " + m.getName());
    }
  }

  private static boolean compiles(Path source, Path into) {
    JavaCompiler javac = ToolProvider.getSystemJavaCompiler();
    if (javac == null) return false;
    String path = System.getProperty("java.class.path");
    return javac.run(null, null, null, "-cp", path, "-d", into.toString(), source.toString()) == 0;
  }

  private static void run(Path room, String code) throws IOException, ReflectiveOperationException {
    Path source = room.resolve("ReadmeSample.java");
    Files.writeString(source, code);
    if (!compiles(source, room)) {
      fault("what it shows does not compile");
      return;
    }
    URL[] at = {room.toUri().toURL()};
    try (URLClassLoader loader = new URLClassLoader(at, ReadmeTest.class.getClassLoader())) {
      wrong += (Integer) loader.loadClass("ReadmeSample").getMethod("run").invoke(null);
    }
  }

  private static void drop(Path room) throws IOException {
    List<Path> files = new ArrayList<>();
    try (var inside = Files.list(room)) {
      inside.forEach(files::add);
    }
    for (Path file : files) Files.delete(file);
    Files.delete(room);
  }

  public static void main(String[] args) throws IOException, ReflectiveOperationException {
    String code = sample(Files.readString(Path.of("README.md")));
    allCallsAreShown();
    Path room = Files.createTempDirectory("readme");
    try {
      run(room, code);
    } finally {
      drop(room);
    }
    System.out.println("ReadmeTest: " + (wrong == 0 ? "all as due" : wrong + " wrong"));
    if (wrong > 0) System.exit(1);
  }
}
