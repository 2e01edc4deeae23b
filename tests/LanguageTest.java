import java.lang.reflect.Constructor;
import java.lang.reflect.Field;
import java.lang.reflect.Member;
import java.lang.reflect.Method;
import java.lang.reflect.Modifier;
import java.nio.file.Files;
import java.nio.file.Path;
import java.util.ArrayList;
import java.util.Arrays;
import java.util.Collections;
import java.util.List;
import java.util.regex.Matcher;
import java.util.regex.Pattern;

/** The document's face, and those rules of ../shared/LANGUAGE.md that a look at the source or the class can tell. */
public final class LanguageTest {
  private static final Path SOURCE = Path.of("src/main/java/CounterHouse.java");
  private static final List<String> FACE = List.of(
      "int plane(int,int,int,int)", "int ofPlane(int,int)", "int tune(int,int)", "int pulse(int,int,int)", "int end()",
      "int anew()", "int group(int,int)", "int member(int,int,int)", "int having(int,int)", "int folds(int)",
      "int shifted(int,int)", "int twos(int,int,int)", "int live(int)", "long rate(int,int)", "long expected(int,int,int)",
      "int track(int,int)", "int through(int,int)", "int many(int)");
  private static final List<String> BARRED = List.of(
      "\\bthrow\\b", "\\bthrows\\b", "\\btry\\b", "\\bcatch\\b", "\\bsynchronized\\b", "\\bassert\\b", "->", "::",
      "\\binstanceof\\b", "\\w+Exact\\b", "\\bSystem\\.(?!arraycopy)", "\\bprotected\\b", "\\bstatic\\s*\\{", "\\bThread\\b",
      "\\bObject\\b", "\\bequals\\b", "\\bhashCode\\b", "\\btoString\\b", "\\bnew \\w+\\s*\\([^)]*\\)\\s*\\{");

  private static void due(String what, boolean holds) { Due.due(what, holds ? 1 : 0, 1); }

  public static void main(String[] args) throws Exception {
    constants();
    face();
    insides();
    source(Files.readString(SOURCE));
    Due.close();
  }

  private static void constants() {
    Due.due("UNKNOWN", CounterHouse.UNKNOWN, -1);
    Due.due("OUTSIDE", CounterHouse.OUTSIDE, -2);
    Due.due("STATE", CounterHouse.STATE, -3);
    Due.due("FULL", CounterHouse.FULL, -4);
    Due.due("NONE", CounterHouse.NONE, -9);
    Due.due("LOST", CounterHouse.LOST, Long.MIN_VALUE);
  }

  private static void face() {
    List<String> told = new ArrayList<>();
    for (Method m : CounterHouse.class.getDeclaredMethods()) {
      if (Modifier.isPrivate(m.getModifiers())) continue;
      due(m + " is public and no static one", (m.getModifiers() & ~Modifier.FINAL) == Modifier.PUBLIC);
      told.add(m.getReturnType() + " " + m.getName() + Arrays.toString(m.getParameterTypes())
          .replace(" ", "").replace('[', '(').replace(']', ')'));
    }
    List<String> want = new ArrayList<>(FACE);
    Collections.sort(told);
    Collections.sort(want);
    due("the methods are the document's: " + told, told.equals(want));
    int constants = 0;
    for (Field f : CounterHouse.class.getDeclaredFields()) {
      if (Modifier.isPrivate(f.getModifiers())) continue;
      constants++;
      due(f + " is a constant", f.getModifiers() == (Modifier.PUBLIC | Modifier.STATIC | Modifier.FINAL));
    }
    Due.due("constants", constants, 6);
    Constructor<?>[] made = CounterHouse.class.getDeclaredConstructors();
    due("one public constructor", made.length == 1 && made[0].getModifiers() == Modifier.PUBLIC
        && made[0].getParameterCount() == 0);
    Due.due("the class is public and final", CounterHouse.class.getModifiers(), Modifier.PUBLIC | Modifier.FINAL);
  }

  private static void insides() {
    List<Class<?>> classes = new ArrayList<>(List.of(CounterHouse.class));
    classes.addAll(List.of(CounterHouse.class.getDeclaredClasses()));
    due("at most twelve classes", classes.size() <= 12);
    List<String> faceNames = FACE.stream().map(f -> f.replaceAll("^\\w+ (\\w+).*", "$1")).toList();
    for (Class<?> c : classes) {
      boolean outer = c == CounterHouse.class;
      due(c + " is static", outer || Modifier.isStatic(c.getModifiers()) && !Modifier.isPublic(c.getModifiers()));
      due(c + " is not deeper inside", outer || c.getDeclaredClasses().length == 0);
      long fields = Arrays.stream(c.getDeclaredFields()).filter(f -> !isConstant(f)).count();
      due(c + " has at most twenty fields", fields <= 20);
      for (Field f : c.getDeclaredFields()) due(f + " is final, if static", !Modifier.isStatic(f.getModifiers()) || isConstant(f));
      for (Method m : c.getDeclaredMethods()) {
        due(m + " has at most seven parameters", m.getParameterCount() <= 7);
        due(m + " has a name of its own", outer && Modifier.isPublic(m.getModifiers()) || !faceNames.contains(m.getName()));
      }
    }
  }

  private static boolean isConstant(Member f) {
    return Modifier.isStatic(f.getModifiers()) && Modifier.isFinal(f.getModifiers());
  }

  private static void source(String text) {
    String code = text.replaceAll("(?s)/\\*.*?\\*/", "").replaceAll("//[^\\n]*", "");
    for (String barred : BARRED) {
      Matcher found = Pattern.compile(barred).matcher(code);
      due("no " + barred, !found.find());
    }
    Matcher imports = Pattern.compile("import ([^;]+);").matcher(code);
    while (imports.find()) due("import " + imports.group(1), imports.group(1).equals("java.util.Arrays"));
    due("no package", !Pattern.compile("(?m)^package").matcher(code).find());
    Matcher arrays = Pattern.compile("Arrays\\.(\\w+)").matcher(code);
    while (arrays.find()) due("Arrays." + arrays.group(1), List.of("fill", "copyOf", "copyOfRange").contains(arrays.group(1)));
    for (String line : text.split("\n")) due("a line of at most 120 signs: " + line, line.length() <= 120);
    methodsAreShort(code);
  }

  private static void methodsAreShort(String code) {
    int begin = 0, number = 0;
    for (String line : code.split("\n")) {
      number++;
      if (line.matches("( {4}| {8})\\S.*\\) \\{")) begin = number;
      if (line.matches(" {4}\\}| {8}\\}") && begin > 0) due("a method of at most sixty lines, at " + begin, number - begin <= 60);
    }
  }
}
