import java.io.IOException;
import java.lang.reflect.Constructor;
import java.lang.reflect.Field;
import java.lang.reflect.Method;
import java.lang.reflect.Modifier;
import java.nio.file.Files;
import java.nio.file.Path;
import java.util.Set;
import java.util.StringJoiner;
import java.util.TreeSet;
import java.util.regex.Matcher;
import java.util.regex.Pattern;

/** The class has the document's face and no more; its file keeps what can be seen of LANGUAGE.md. */
public final class FaceTest {
  /** What the language's rules leave out, as it would stand in the file. */
  private static final String[] LEFT_OUT = {
    "\\bimport\\b", "\\bpackage\\b", "->", "::", "\\bsynchronized\\b", "\\bassert\\b", "\\bfinally\\b",
    "\\btry\\b", "\\bcatch\\b", "\\bstatic\\s*\\{", "\\w+Exact\\b", "\\bString\\.(format|valueOf|join)\\b",
    "\\b(Integer|Long)\\.(toString|parse\\w+|MIN_VALUE|MAX_VALUE)\\b", "\\bSystem\\.(?!arraycopy)", "\\bThread\\b", "\\bObject\\b",
    "\\bhashCode\\b", "\\blambda\\b", "\\bdouble\\b", "\\bfloat\\b", "\"\\s*\\+", "\\+\\s*\""
  };

  private static int wrong = 0;

  private static void due(boolean isSo, String what) {
    if (!isSo) {
      wrong++;
      System.out.println(what);
    }
  }

  private static String parameters(Class<?>[] types) {
    StringJoiner all = new StringJoiner(", ", "(", ")");
    for (Class<?> type : types) {
      all.add(type.getSimpleName());
    }
    return all.toString();
  }

  private static String thrown(Class<?>[] types) {
    StringJoiner all = new StringJoiner(", ", " throws ", "");
    for (Class<?> type : types) {
      all.add(type.getSimpleName());
    }
    return types.length == 0 ? "" : all.toString();
  }

  private static Set<String> faceOfDocument() throws IOException {
    String document = Files.readString(Path.of("../shared/DOC.md"));
    int begin = document.indexOf("public final class Stepfunctions {");
    String block = document.substring(begin, document.indexOf("```", begin));
    Matcher row = Pattern.compile("public ([^;{]*?)\\((.*?)\\)([^;]*);").matcher(block);
    Set<String> face = new TreeSet<>();
    while (row.find()) {
      String types = row.group(2).replaceAll("(\\w+) \\w+", "$1");
      face.add(row.group(1) + "(" + types + ")" + row.group(3));
    }
    return face;
  }

  private static Set<String> faceOfClass() {
    Set<String> face = new TreeSet<>();
    for (Constructor<?> made : Stepfunctions.class.getDeclaredConstructors()) {
      face.add(made.getDeclaringClass().getSimpleName() + parameters(made.getParameterTypes()));
    }
    for (Method method : Stepfunctions.class.getDeclaredMethods()) {
      if (!Modifier.isPrivate(method.getModifiers())) {
        due(Modifier.isPublic(method.getModifiers()), "neither public nor private: " + method);
        face.add(
            method.getReturnType().getSimpleName() + " " + method.getName()
                + parameters(method.getParameterTypes()) + thrown(method.getExceptionTypes()));
      }
    }
    return face;
  }

  private static void noNameTwice() {
    Set<String> open = new TreeSet<>();
    for (Method method : Stepfunctions.class.getDeclaredMethods()) {
      if (Modifier.isPublic(method.getModifiers())) {
        due(open.add(method.getName()), "a public name twice: " + method);
      }
    }
    for (Method method : Stepfunctions.class.getDeclaredMethods()) {
      boolean isOpen = Modifier.isPublic(method.getModifiers());
      due(isOpen || !open.contains(method.getName()), "a private method with a public name: " + method);
    }
  }

  private static void fieldsAreKept() {
    for (Field field : Stepfunctions.class.getDeclaredFields()) {
      due(Modifier.isPrivate(field.getModifiers()), "not private: " + field);
      boolean isStatic = Modifier.isStatic(field.getModifiers());
      due(!isStatic || Modifier.isFinal(field.getModifiers()), "static, but not final: " + field);
    }
    for (Class<?> inside : Stepfunctions.class.getDeclaredClasses()) {
      due(Modifier.isStatic(inside.getModifiers()), "not static: " + inside);
      due((inside.getModifiers() & (Modifier.PUBLIC | Modifier.PROTECTED)) == 0, "open: " + inside);
    }
  }

  private static void fileKeepsTheRules() throws IOException {
    String file = Files.readString(Path.of("src/main/java/Stepfunctions.java"));
    String code = file.replaceAll("(?s)/\\*.*?\\*/", " ").replaceAll("//[^\n]*", " ");
    for (String pattern : LEFT_OUT) {
      Matcher found = Pattern.compile(pattern).matcher(code);
      due(!found.find(), "the file has what the language leaves out: " + pattern);
    }
    due(code.chars().allMatch(sign -> sign == '\n' || sign >= 32 && sign < 127), "a sign above 127");
  }

  public static void main(String[] args) throws IOException {
    Set<String> want = faceOfDocument();
    Set<String> got = faceOfClass();
    due(want.size() == 56, "the document's face has " + want.size() + " rows, not 56");
    for (String row : want) {
      due(got.contains(row), "missing: " + row);
    }
    for (String row : got) {
      due(want.contains(row), "not in the document: " + row);
    }
    due(Modifier.isFinal(Stepfunctions.class.getModifiers()), "the class is not final");
    noNameTwice();
    fieldsAreKept();
    fileKeepsTheRules();
    System.out.println(wrong == 0 ? "the face is as due" : wrong + " things are not as due");
    if (wrong != 0) {
      System.exit(1);
    }
  }
}
