import java.io.IOException;
import java.lang.reflect.Field;
import java.lang.reflect.Method;
import java.lang.reflect.Modifier;
import java.nio.file.Files;
import java.nio.file.Path;
import java.util.ArrayList;
import java.util.HashSet;
import java.util.List;
import java.util.Set;
import java.util.regex.Matcher;
import java.util.regex.Pattern;

/** The rules of LANGUAGE.md that can be seen from the file itself or from the classes that it is compiled to. */
public final class VerseYearsLanguage {
  private static final Path FILE = Path.of("src/main/java/VerseYears.java");
  private static final int MOST_LINES = 60, MOST_PARAMETERS = 7, MOST_CLASSES = 12, MOST_FIELDS = 20;
  private static int wrong = 0;

  private static void rule(int number, boolean holds, String what) {
    if (!holds) {
      wrong++;
      System.out.println("rule " + number + ": " + what);
    }
  }

  public static void main(String[] args) throws IOException {
    String code = withoutWords(Files.readString(FILE));
    wordsOfTheCode(code);
    libraryOfTheCode(code);
    lengthOfMethods(code);
    List<Class<?>> all = allClasses();
    rule(11, all.size() <= MOST_CLASSES, all.size() + " classes");
    for (Class<?> one : all) {
      classInside(one);
      fields(one);
      methods(one);
    }
    System.out.println(wrong == 0 ? "the rules that can be seen are kept" : wrong + " times a rule is not kept");
    if (wrong != 0) System.exit(1);
  }

  // ---- the file

  /** Comments and texts go, lines stay. */
  private static String withoutWords(String text) {
    Matcher found = Pattern.compile("/\\*.*?\\*/|//[^\n]*|\"(\\\\.|[^\"\\\\\n])*\"|'(\\\\.|[^'\\\\\n])+'", Pattern.DOTALL)
        .matcher(text);
    return found.replaceAll(match -> match.group().replaceAll("[^\n]", "_"));
  }

  private static void wordsOfTheCode(String code) {
    for (String word : new String[] {
        "throw", "throws", "try", "catch", "finally", "synchronized", "assert", "equals", "hashCode", "toString",
        "native", "volatile", "transient", "strictfp", "super"}) {
      rule(6, !Pattern.compile("\\b" + word + "\\b").matcher(code).find(), "the word " + word);
    }
    rule(2, !code.contains("->") && !code.contains("::"), "a lambda or a method reference");
    rule(5, !Pattern.compile("\\bstatic\\s*\\{").matcher(code).find(), "a static initialiser block");
    rule(1, !Pattern.compile("\\bpackage\\b").matcher(code).find(), "a package line");
    rule(9, !Pattern.compile("while\\s*\\(\\s*true|for\\s*\\([^;]*;\\s*;").matcher(code).find(), "a loop without an end");
    Matcher publicClass = Pattern.compile("public\\s[\\w\\s]*class\\s").matcher(code);
    rule(1, publicClass.find() && !publicClass.find(), "not just one public class");
  }

  private static void libraryOfTheCode(String code) {
    Matcher imported = Pattern.compile("import\\s+([^;]+);").matcher(code);
    while (imported.find()) {
      rule(4, imported.group(1).matches("java\\.util\\.(Arrays|ArrayList|List|Iterator)"), "import " + imported.group(1));
    }
    rule(4, !Pattern.compile("\\bjavax?\\.(?!util\\.)").matcher(code).find(), "a library named in full");
    Matcher called = Pattern.compile("\\b(System|Arrays|Math|Integer|Long|String|Character|Thread|Runtime)\\.(\\w+)")
        .matcher(code);
    while (called.find()) {
      rule(4, isListed(called.group(1), called.group(2)), called.group());
    }
  }

  private static boolean isListed(String holder, String called) {
    switch (holder) {
      case "System": return called.equals("arraycopy");
      case "Arrays": return called.matches("copyOf|copyOfRange|fill");
      case "Math": case "Integer": case "Long": return !called.endsWith("Exact") && !called.equals("random");
      default: return false;
    }
  }

  private static void lengthOfMethods(String code) {
    Pattern head = Pattern.compile("\\s+[\\w\\s\\[\\]]+\\([^;]*\\)\\s*\\{\\s*");
    String[] lines = code.split("\n");
    int measured = 0;
    for (int at = 0; at < lines.length; at++) {
      if (!head.matcher(lines[at]).matches() || lines[at].matches("\\s*(if|for|while|switch|do|else)\\b.*")) continue;
      measured++;
      int deep = 1;
      int to = at + 1;
      for (; to < lines.length && deep > 0; to++) deep += braces(lines[to]);
      rule(11, to - at <= MOST_LINES, "a method of " + (to - at) + " lines: " + lines[at].trim());
    }
    rule(11, measured > 40, "too few methods were found to be measured: " + measured);
  }

  private static int braces(String line) {
    int deep = 0;
    for (int k = 0; k < line.length(); k++) {
      if (line.charAt(k) == '{') deep++;
      if (line.charAt(k) == '}') deep--;
    }
    return deep;
  }

  // ---- the classes

  private static List<Class<?>> allClasses() {
    List<Class<?>> all = new ArrayList<>();
    all.add(VerseYears.class);
    for (int k = 0; k < all.size(); k++) all.addAll(List.of(all.get(k).getDeclaredClasses()));
    return all;
  }

  private static void classInside(Class<?> one) {
    if (one == VerseYears.class) return;
    int is = one.getModifiers();
    rule(1, Modifier.isStatic(is) && !Modifier.isPublic(is) && !Modifier.isProtected(is), "the class " + one);
  }

  private static void fields(Class<?> one) {
    int own = 0;
    for (Field field : one.getDeclaredFields()) {
      boolean isStatic = Modifier.isStatic(field.getModifiers());
      if (!isStatic) own++;
      rule(5, !isStatic || Modifier.isFinal(field.getModifiers()) && isConstant(field.getType()), "the field " + field);
      rule(3, isStatic || isKept(field.getType()), "the field " + field);
    }
    rule(11, own <= MOST_FIELDS, one + " has " + own + " fields");
  }

  private static boolean isConstant(Class<?> type) {
    return type == int.class || type == long.class || type == boolean.class || type == char.class
        || type == String.class || type == int[].class || type == long[].class || type == char[].class
        || type == byte[].class;
  }

  private static boolean isKept(Class<?> type) {
    Class<?> bottom = type;
    for (int deep = 0; deep < 2 && bottom.isArray(); deep++) bottom = bottom.getComponentType();
    return bottom.isPrimitive() || bottom.getName().startsWith("VerseYears$") || bottom == String.class;
  }

  private static void methods(Class<?> one) {
    Set<String> face = new HashSet<>();
    for (Method method : VerseYears.class.getDeclaredMethods()) {
      if (Modifier.isPublic(method.getModifiers())) face.add(method.getName());
    }
    for (Method method : one.getDeclaredMethods()) {
      boolean isFace = one == VerseYears.class && Modifier.isPublic(method.getModifiers());
      rule(1, isFace || !face.contains(method.getName()), "bears the name of a public one: " + method);
      rule(11, method.getParameterCount() <= MOST_PARAMETERS, "too many parameters: " + method);
      rule(6, !Modifier.isSynchronized(method.getModifiers()), "synchronized: " + method);
    }
  }
}
