import java.io.IOException;
import java.lang.reflect.Constructor;
import java.lang.reflect.Field;
import java.lang.reflect.Method;
import java.lang.reflect.Modifier;
import java.nio.file.Files;
import java.nio.file.Path;
import java.util.ArrayList;
import java.util.Arrays;
import java.util.List;
import java.util.Set;
import java.util.TreeSet;
import java.util.regex.Pattern;

/** The class's face as the document has it, and what LANGUAGE.md lets be seen from outside. */
public final class FaceTest {
  private static final String[] FACE = {
    "int wall(int)", "int cord(int,int,int,int)", "int caught(int,boolean)", "int good(int,int)",
    "int put(int,int)", "int order(int)", "int type(long,int)", "int clear()", "int read()",
    "int pull(int)", "int undo()", "int behind(int,int)", "int out(int)",
    "int pulls(int,int,int)", "int safe(int,int,int)", "int reach(int)", "int kept()",
    "int cut()", "int tie()", "int day(int)", "int laid()", "int danger(int)",
    "int sight(int,int)", "int none(int)", "int fits(int)", "int image(int)", "int from(int)",
    "int status(int)", "int count(int)", "long digest()",
  };
  private static int wrong = 0;

  private static void check(boolean is, String what) {
    if (is) return;
    wrong++;
    System.out.println(what);
  }

  private static String shown(Method m) {
    List<String> types = new ArrayList<>();
    for (Class<?> c : m.getParameterTypes()) types.add(c.getSimpleName());
    return m.getReturnType().getSimpleName() + " " + m.getName() + "(" + String.join(",", types) + ")";
  }

  private static void face() {
    Class<?> c = DrawerWall.class;
    check(Modifier.isPublic(c.getModifiers()) && Modifier.isFinal(c.getModifiers()), "not public final");
    Set<String> seen = new TreeSet<>();
    Set<String> names = new TreeSet<>();
    for (Method m : c.getDeclaredMethods()) {
      if (Modifier.isPrivate(m.getModifiers())) continue;
      check(Modifier.isPublic(m.getModifiers()) && !Modifier.isStatic(m.getModifiers()), "open: " + m);
      seen.add(shown(m));
      names.add(m.getName());
    }
    check(seen.equals(new TreeSet<>(Arrays.asList(FACE))), "another face: " + seen);
    Set<String> constants = new TreeSet<>();
    for (Field f : c.getDeclaredFields()) {
      boolean isConstant = Modifier.isStatic(f.getModifiers()) && Modifier.isFinal(f.getModifiers());
      check(isConstant || !Modifier.isStatic(f.getModifiers()), "a static field that changes: " + f);
      if (!Modifier.isPrivate(f.getModifiers())) constants.add(f.getName());
    }
    check(constants.equals(Set.of("NONE", "BAD", "NO", "FULL")), "open fields: " + constants);
    Constructor<?>[] made = c.getDeclaredConstructors();
    check(made.length == 1 && made[0].getParameterCount() == 0, "another constructor");
    inner(c, names);
  }

  private static void inner(Class<?> c, Set<String> names) {
    check(c.getDeclaredClasses().length <= 12, "too many classes");
    List<Class<?>> all = new ArrayList<>(Arrays.asList(c.getDeclaredClasses()));
    for (Class<?> k : all) {
      check(Modifier.isStatic(k.getModifiers()), "not static: " + k);
      check(!Modifier.isPublic(k.getModifiers()), "public: " + k);
    }
    all.add(c);
    for (Class<?> k : all) {
      int own = 0;
      for (Field f : k.getDeclaredFields()) if (!Modifier.isStatic(f.getModifiers())) own++;
      check(own <= 20, "too many fields: " + k);
      for (Method m : k.getDeclaredMethods()) {
        check(m.getParameterCount() <= 7, "too many parameters: " + m);
        if (k != c || Modifier.isPrivate(m.getModifiers())) {
          check(!names.contains(m.getName()), "a name of the face: " + m);
        }
      }
    }
  }

  private static void words(Path file) throws IOException {
    String source = Files.readString(file);
    String code = source.replaceAll("(?s)/\\*.*?\\*/|//[^\n]*|\"[^\"\n]*\"|'[^'\n]*'", " ");
    for (String w : "throw throws try catch finally synchronized assert import package float double var"
        .split(" ")) {
      check(!Pattern.compile("\\b" + w + "\\b").matcher(code).find(), "word: " + w);
    }
    check(!code.contains("->") && !code.contains("::"), "a lambda or a method reference");
    check(!code.contains("Exact("), "a function of Exact");
    check(source.chars().allMatch(b -> b == '\n' || b >= 32 && b < 127), "a sign beyond 126");
  }

  public static void main(String[] args) throws IOException {
    face();
    words(Path.of(args.length > 0 ? args[0] : "src/main/java/DrawerWall.java"));
    System.out.println(wrong == 0 ? "FaceTest: all as due" : "FaceTest: " + wrong + " wrong");
    if (wrong != 0) System.exit(1);
  }
}
