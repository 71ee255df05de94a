import java.io.IOException;
import java.lang.reflect.InvocationTargetException;
import java.lang.reflect.Method;
import java.nio.file.Files;
import java.nio.file.Path;
import java.util.ArrayList;
import java.util.Comparator;
import java.util.LinkedHashMap;
import java.util.List;
import java.util.Map;

/** Runs the test of each sentence, and checks that the sentences are all the document's own. */
public final class BoundsTest {
  private static final Class<?>[] ALL = {
    TermsOneBounds.class, TermsTwoBounds.class, TermsThreeBounds.class, TellBounds.class,
    PullBounds.class, GoodsBounds.class, ThingsBounds.class,
  };
  private static final String USE = "What it is", TERMS = "Terms";

  private final Map<String, String> sections = new LinkedHashMap<>();
  private final Map<String, boolean[]> told = new LinkedHashMap<>();
  private int failed = 0;

  private void fail(String what) {
    failed++;
    System.out.println("FAILED: " + what);
  }

  /** Takes the document apart: the sentence on use, Terms, and each promise by its number. */
  private void learn(Path file) throws IOException {
    String heading = "";
    for (String line : Files.readAllLines(file)) {
      if (line.startsWith("## ")) {
        heading = line.substring(3).replaceFirst("^Promise (\\d+): .*", "$1");
      } else if (!line.startsWith("```") && !line.startsWith("Ahead of the calls")) {
        String plain = line.replaceFirst("^=+ \\d ", "").replaceFirst("^`[^`]*`:", "");
        sections.merge(heading, plain, (a, b) -> a + " " + b);
      }
    }
    sections.keySet().removeIf(k -> !k.equals(USE) && !k.equals(TERMS) && !k.matches("\\d+"));
    sections.replaceAll((k, text) -> text.replaceAll("\\s+", " ").trim());
    sections.computeIfPresent(USE, (k, text) -> text.substring(text.indexOf("An object is used")));
    sections.forEach((k, text) -> told.put(k, new boolean[text.length()]));
  }

  /** Where the words of a test stand in the document; -1, if they do not stand there just once. */
  private int placeOf(Sentence s) {
    String text = sections.getOrDefault(s.of(), "");
    int at = text.indexOf(s.says());
    return at == text.lastIndexOf(s.says()) ? at : -1;
  }

  private List<Method> tests() {
    List<Method> all = new ArrayList<>();
    for (Class<?> c : ALL) {
      for (Method m : c.getDeclaredMethods()) {
        if (m.isAnnotationPresent(Sentence.class)) all.add(m);
      }
    }
    List<String> order = new ArrayList<>(sections.keySet());
    all.sort(Comparator.comparingInt((Method m) -> order.indexOf(sentenceOf(m).of()))
        .thenComparingInt(m -> placeOf(sentenceOf(m))).thenComparing(Method::getName));
    return all;
  }

  private static Sentence sentenceOf(Method m) {
    return m.getAnnotation(Sentence.class);
  }

  private void run(Method m) {
    Sentence s = sentenceOf(m);
    String name = (s.of().matches("\\d+") ? "promise " + s.of() : s.of()) + ": " + s.says();
    int at = placeOf(s);
    if (at < 0) {
      fail(name + " (these words do not stand there once)");
      return;
    }
    for (int i = at; i < at + s.says().length(); i++) told.get(s.of())[i] = true;
    int checks = Bounds.checks;
    int wrong = Bounds.wrong;
    try {
      m.invoke(null);
    } catch (IllegalAccessException | InvocationTargetException e) {
      fail(name + " (" + m.getName() + "): " + e.getCause());
      return;
    }
    if (Bounds.wrong > wrong) fail(name + " (" + m.getName() + ")");
    else if (Bounds.checks == checks) fail(name + " (" + m.getName() + " checks nothing)");
    else System.out.println("  holds: " + name);
  }

  /** Whether each word of the document's sentences is in the name of a test. */
  private void checkAllTold() {
    for (Map.Entry<String, String> e : sections.entrySet()) {
      StringBuilder left = new StringBuilder();
      boolean[] is = told.get(e.getKey());
      for (int i = 0; i < is.length; i++) {
        char c = e.getValue().charAt(i);
        if (!is[i] && Character.isLetterOrDigit(c)) left.append(c);
      }
      if (left.length() > 0) fail("no test is named after, in " + e.getKey() + ": " + left);
    }
    for (int p = 1; p <= 31; p++) {
      if (!sections.containsKey("" + p)) fail("the document has no promise " + p);
    }
  }

  public static void main(String[] args) throws IOException {
    BoundsTest t = new BoundsTest();
    t.learn(Path.of(args.length > 0 ? args[0] : "../shared/DOC.md"));
    List<Method> all = t.tests();
    for (Method m : all) t.run(m);
    t.checkAllTold();
    System.out.println("BoundsTest: " + all.size() + " sentences, " + Bounds.checks + " checks, "
        + (t.failed == 0 ? "all as due" : t.failed + " failed"));
    if (t.failed != 0) System.exit(1);
  }
}
