import java.io.IOException;
import java.lang.reflect.Constructor;
import java.lang.reflect.Field;
import java.lang.reflect.Method;
import java.lang.reflect.Modifier;
import java.nio.file.Files;
import java.nio.file.Path;
import java.util.Arrays;
import java.util.List;
import java.util.Set;
import java.util.TreeSet;
import java.util.regex.Matcher;
import java.util.regex.Pattern;

/** The class shows the document's face and nothing else, and keeps clear of what LANGUAGE.md leaves out. */
public final class FaceTest {
  private static final Set<String> FACE = Set.of("int feed(int)", "int five(int,int,int,int,int)", "int reset()",
      "int verify()", "int one()", "int render(int)", "int optimise()", "int shorter(int)", "int renderShorter(int)",
      "int pixel(int,int)", "void clear(int)", "int sum()", "int state(int)");
  private static final List<String> LEFT_OUT = List.of("throw", "throws", "try", "catch", "finally", "synchronized",
      "assert", "package", "protected", "->", "::", "[A-Za-z]+Exact", "System\\.out", "Random", "nanoTime", "float",
      "double", "hashCode", "toString");
  private static int wrong = 0;

  private static void due(String what, boolean holds) {
    if (!holds) {
      wrong++;
      System.out.println(what);
    }
  }

  private static String signature(Method method) {
    StringBuilder text = new StringBuilder(method.getReturnType().getName()).append(' ').append(method.getName());
    text.append('(');
    for (int i = 0; i < method.getParameterCount(); i++) {
      text.append(i > 0 ? "," : "").append(method.getParameterTypes()[i].getName());
    }
    return text.append(')').toString();
  }

  private static void face() {
    Class<?> painter = ListPainter.class;
    due("the class is public and final", Modifier.isPublic(painter.getModifiers()) && Modifier.isFinal(painter.getModifiers()));
    Set<String> shown = new TreeSet<>();
    for (Method method : painter.getDeclaredMethods()) {
      if (!Modifier.isPrivate(method.getModifiers())) {
        shown.add(signature(method));
        due(method + " is public and belongs to an object",
            Modifier.isPublic(method.getModifiers()) && !Modifier.isStatic(method.getModifiers()));
      }
    }
    due("the methods are " + shown, shown.equals(new TreeSet<>(FACE)));
    Constructor<?>[] constructors = painter.getDeclaredConstructors();
    due("one constructor of two numbers", constructors.length == 1 && Modifier.isPublic(constructors[0].getModifiers())
        && Arrays.equals(constructors[0].getParameterTypes(), new Class<?>[] {int.class, int.class}));
    for (Field field : painter.getDeclaredFields()) {
      boolean constant = field.getName().equals("BAD") || field.getName().equals("NONE");
      due(field + " is as visible as it should be",
          constant ? Modifier.isPublic(field.getModifiers()) : Modifier.isPrivate(field.getModifiers()));
      due(field + " is final, if static",
          !Modifier.isStatic(field.getModifiers()) || Modifier.isFinal(field.getModifiers()));
    }
  }

  private static void classesInside() {
    Class<?>[] inside = ListPainter.class.getDeclaredClasses();
    due("at most twelve classes", inside.length + 1 <= 12);
    Set<String> names = new TreeSet<>();
    FACE.forEach(face -> names.add(face.replaceAll(".* |\\(.*", "")));
    for (Class<?> one : inside) {
      due(one + " is static and not public", Modifier.isStatic(one.getModifiers()) && !Modifier.isPublic(one.getModifiers()));
      long fields = Arrays.stream(one.getDeclaredFields()).filter(f -> !Modifier.isStatic(f.getModifiers())).count();
      due(one + " has at most twenty fields", fields <= 20);
      for (Method method : one.getDeclaredMethods()) {
        due(method + " has at most seven parameters", method.getParameterCount() <= 7);
        due(method + " bears no name of the face", !names.contains(method.getName()));
      }
    }
  }

  private static void source() throws IOException {
    Path file = Path.of(System.getProperty("project", "."), "src/main/java/ListPainter.java");
    String code = Files.readString(file).replaceAll("(?s)/\\*.*?\\*/", "").replaceAll("//[^\n]*", "");
    for (String word : LEFT_OUT) {
      String bounded = Character.isLetter(word.charAt(0)) || word.startsWith("[") ? "\\b" + word + "\\b" : word;
      Matcher matcher = Pattern.compile(bounded).matcher(code);
      due("the source has '" + word + "'", !matcher.find());
    }
    Matcher imports = Pattern.compile("import\\s+([\\w.]+);").matcher(code);
    while (imports.find()) {
      due("the source imports " + imports.group(1), imports.group(1).equals("java.util.Arrays"));
    }
  }

  public static void main(String[] args) throws IOException {
    face();
    classesInside();
    source();
    System.out.println(wrong == 0 ? "the face is as due" : wrong + " things are not as due");
    if (wrong != 0) {
      System.exit(1);
    }
  }
}
