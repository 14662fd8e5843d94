import java.lang.reflect.Field;
import java.lang.reflect.Member;
import java.lang.reflect.Method;
import java.lang.reflect.Modifier;
import java.nio.file.Files;
import java.nio.file.Path;
import java.util.ArrayList;
import java.util.HashSet;
import java.util.List;
import java.util.Set;
import java.util.TreeSet;
import java.util.regex.Matcher;
import java.util.regex.Pattern;

/** The rules of LANGUAGE.md that can be seen from the source's words and the class's members. */
public final class LanguageRules {
  private static int wrong = 0;

  private static final String FACE = "around band bolt cell count feed flaw flaws force from kilt kiltTold laid lay let needs "
      + "pleat says sett settTold sheet shown stripe taken text thread turn twill";

  private static void rule(int number, boolean kept, String said) {
    if (!kept) {
      wrong++;
      System.out.println("rule " + number + ": " + said);
    }
  }

  public static void main(String[] args) throws Exception {
    String source = Files.readString(Path.of("src/main/java/KiltRoom.java"));
    for (int i = 0; i < source.length(); i++) rule(4, source.charAt(i) < 128, "a sign above 127 at " + i);
    words(bare(source));
    lengths(source);
    face();
    System.out.println(wrong == 0 ? "all rules are kept" : wrong + " rules are broken");
    if (wrong != 0) System.exit(1);
  }

  /** Without comments and texts. */
  private static String bare(String s) {
    return s.replaceAll("(?s)/\\*.*?\\*/", "").replaceAll("//[^\n]*", "")
        .replaceAll("\"(\\\\.|[^\"\\\\])*\"", "\"\"").replaceAll("'(\\\\.|[^'\\\\])'", "' '");
  }

  private static void words(String code) {
    for (String word : List.of("throw", "throws", "try", "catch", "finally", "synchronized", "assert", "package", "yield",
        "hashCode", "toString", "Object", "Thread", "Random", "protected", "volatile", "native", "var")) {
      rule(6, !Pattern.compile("\\b" + word + "\\b").matcher(code).find(), "the word " + word);
    }
    rule(2, !code.contains("->") && !code.contains("::"), "a lambda or a method reference");
    Matcher imports = Pattern.compile("import ([^;]+);").matcher(code);
    while (imports.find()) {
      rule(4, List.of("java.util.Arrays", "java.util.ArrayList", "java.util.List", "java.util.Iterator")
          .contains(imports.group(1)), "import " + imports.group(1));
    }
    Matcher library = Pattern.compile("\\b(Arrays|Math|Integer|Long|System|String)\\.(\\w+)").matcher(code);
    while (library.find()) {
      rule(4, List.of("Arrays.copyOf", "Arrays.copyOfRange", "Arrays.fill", "Math.max", "Math.min", "Math.abs", "Math.floorMod",
          "Math.floorDiv", "Integer.bitCount", "System.arraycopy").contains(library.group()), library.group());
    }
    Matcher classes = Pattern.compile("\\bclass \\w+").matcher(code);
    int many = 0;
    while (classes.find()) many++;
    rule(11, many <= 12, many + " classes");
    rule(9, !Pattern.compile("while \\(true\\)|for \\([^;]*;\\s*;").matcher(code).find(), "a loop without an end");
  }

  private static void lengths(String source) {
    String[] lines = source.split("\n");
    int began = -1;
    for (int i = 0; i < lines.length; i++) {
      if (lines[i].matches(" {4}( {4})?[A-Za-z].*\\) \\{") && !lines[i].contains(" class ")) began = i;
      if (began >= 0 && lines[i].matches(" {4}( {4})?\\}")) {
        rule(11, i - began < 60, "a method of " + (i - began + 1) + " lines at " + (began + 1));
        began = -1;
      }
    }
  }

  private static void face() {
    Class<?> room = KiltRoom.class;
    rule(1, Modifier.isPublic(room.getModifiers()) && Modifier.isFinal(room.getModifiers()), "public and final");
    rule(1, room.getDeclaredConstructors().length == 1 && room.getConstructors().length == 1, "constructors");
    Set<String> publics = new TreeSet<>();
    List<Member> members = new ArrayList<>();
    for (Method m : room.getDeclaredMethods()) {
      members.add(m);
      if (Modifier.isPublic(m.getModifiers())) publics.add(m.getName());
    }
    for (Field f : room.getDeclaredFields()) {
      members.add(f);
      rule(1, !Modifier.isPublic(f.getModifiers()) || Set.of("NONE", "BAD", "STATE", "FULL", "NO").contains(f.getName()), f.getName());
    }
    for (Member m : members) {
      rule(1, m.isSynthetic() || Modifier.isPublic(m.getModifiers()) || Modifier.isPrivate(m.getModifiers()), "open: " + m.getName());
    }
    rule(1, String.join(" ", publics).equals(FACE), "the face is " + publics);
    Set<String> names = new HashSet<>(publics);
    List<Class<?>> all = new ArrayList<>(List.of(room.getDeclaredClasses()));
    all.add(room);
    for (Class<?> c : all) {
      int fields = 0;
      rule(1, c == room || Modifier.isStatic(c.getModifiers()), c.getName() + " isn't static");
      for (Field f : c.getDeclaredFields()) {
        if (!Modifier.isStatic(f.getModifiers())) fields++;
        rule(5, !Modifier.isStatic(f.getModifiers()) || Modifier.isFinal(f.getModifiers()), "static " + f.getName());
      }
      rule(11, fields <= 20, c.getName() + " has " + fields + " fields");
      for (Method m : c.getDeclaredMethods()) {
        rule(11, m.getParameterCount() <= 7, m.getName() + " has too many parameters");
        rule(1, Modifier.isPublic(m.getModifiers()) || !names.contains(m.getName()), "not public: " + m.getName());
      }
    }
  }
}
