import java.lang.reflect.Constructor;
import java.lang.reflect.Field;
import java.lang.reflect.Method;
import java.lang.reflect.Modifier;
import java.nio.file.Files;
import java.nio.file.Path;
import java.util.ArrayList;
import java.util.Arrays;
import java.util.List;
import java.util.Set;
import java.util.TreeSet;
import java.util.regex.Matcher;
import java.util.regex.Pattern;

/** The class has the document's face and no more, and its text keeps to what LANGUAGE.md allows. */
public final class FaceTest {
  private static int wrong;

  private static final String[] FACE = {
      "int guest(int,int)", "int guests(int,int,int)", "int mend(int,int,int)", "int of(int,int)", "int feed(int)", "int law()",
      "int level(int,int,int)", "int lowest(int,int)", "int below(int,int,int)", "int loss(int)", "int rest(int,int)",
      "int often(int,int,int)", "int warden(int,int)", "int spoils(int,int)", "int order(int,int)", "long tin(int,int)",
      "int who(int,int,int)", "int ways(int,int)", "int judge(int,int)", "int since(int,int,int)", "int drawn(int,int,int)",
      "int night(int)", "int set(int,int)", "int forget(int)", "int led(int)", "int image()", "int back()", "int undo()",
      "int redo()", "int body(int)", "int act(int,int,int)", "int trace(int)", "int keep(int,int)", "int row(int,int,int)",
      "int put(int,int,long)", "long element(int,int)", "int shift(int,int,int,int,int)", "int taken(int,int)", "int count(int)"};

  private static void want(boolean ok, String what) {
    if (!ok) {
      wrong++;
      System.out.println("not so: " + what);
    }
  }

  private static String print(Method m) {
    List<String> types = new ArrayList<>();
    for (Class<?> type : m.getParameterTypes()) types.add(type.getName());
    return m.getReturnType().getName() + " " + m.getName() + "(" + String.join(",", types) + ")";
  }

  private static void members() {
    want(Modifier.isPublic(LeftAsFound.class.getModifiers()) && Modifier.isFinal(LeftAsFound.class.getModifiers()), "public and final");
    Set<String> open = new TreeSet<>();
    Set<String> names = new TreeSet<>();
    for (Method m : LeftAsFound.class.getDeclaredMethods()) {
      if (Modifier.isPrivate(m.getModifiers())) continue;
      want(Modifier.isPublic(m.getModifiers()) && !Modifier.isStatic(m.getModifiers()), "public: " + m);
      open.add(print(m));
      names.add(m.getName());
    }
    want(open.equals(new TreeSet<>(Arrays.asList(FACE))), "the methods of the face: " + open);
    hidden(LeftAsFound.class, names);
    for (Class<?> c : LeftAsFound.class.getDeclaredClasses()) {
      want(Modifier.isStatic(c.getModifiers()) && !Modifier.isPublic(c.getModifiers()), "static and not public: " + c);
      hidden(c, names);
    }
    want(LeftAsFound.class.getDeclaredClasses().length <= 12, "at most twelve classes");
    Constructor<?>[] makers = LeftAsFound.class.getDeclaredConstructors();
    want(makers.length == 1 && Modifier.isPublic(makers[0].getModifiers()) && makers[0].getParameterCount() == 0, "one constructor");
    constants();
  }

  /** No method but the face's bears one of its names; fields are few; none that is static may change. */
  private static void hidden(Class<?> c, Set<String> names) {
    for (Method m : c.getDeclaredMethods()) {
      if (c == LeftAsFound.class && !Modifier.isPrivate(m.getModifiers())) continue;
      want(!names.contains(m.getName()), "a name of its own: " + m);
      want(m.getParameterCount() <= 7, "at most seven parameters: " + m);
    }
    int fields = 0;
    for (Field f : c.getDeclaredFields()) {
      if (Modifier.isStatic(f.getModifiers())) want(Modifier.isFinal(f.getModifiers()), "final: " + f);
      else fields++;
    }
    want(fields <= 20, "at most twenty fields: " + c);
  }

  private static void constants() {
    Set<String> open = new TreeSet<>();
    for (Field f : LeftAsFound.class.getDeclaredFields()) {
      if (Modifier.isPrivate(f.getModifiers())) continue;
      want(Modifier.isPublic(f.getModifiers()) && Modifier.isStatic(f.getModifiers()) && f.getType() == int.class, "a constant: " + f);
      open.add(f.getName());
    }
    want(open.equals(new TreeSet<>(List.of("BAD", "NOT", "FULL", "STATE", "VOID"))), "the constants: " + open);
    want(LeftAsFound.BAD == -1 && LeftAsFound.NOT == -2 && LeftAsFound.FULL == -3 && LeftAsFound.STATE == -5
        && LeftAsFound.VOID == -2000000000, "the constants' values");
  }

  private static void text() throws Exception {
    String text = Files.readString(Path.of("src/main/java/LeftAsFound.java"));
    for (int i = 0; i < text.length(); i++) want(text.charAt(i) < 127, "a sign above 126 at " + i);
    String code = text.replaceAll("(?s)/\\*.*?\\*/", " ").replaceAll("//[^\\n]*", " ").replaceAll("\"[^\"\\n]*\"", "\"\"");
    for (String word : new String[] {"throw", "throws", "try", "catch", "finally", "synchronized", "assert", "package", "import", "transient",
        "volatile", "native", "yield", "Object", "Thread", "Random", "System.out", "System.nanoTime", "System.currentTimeMillis", "hashCode",
        "toString", "\\w+Exact"}) {
      want(!Pattern.compile("\\b" + word + "\\b").matcher(code).find(), "none of " + word);
    }
    want(!code.contains("->") && !code.contains("::") && !code.contains("@"), "no lambda, no method reference, no annotation");
    want(!Pattern.compile("\\b(while|for)\\s*\\(\\s*(true|;\\s*;)").matcher(code).find(), "no loop without an end");
    Matcher m = Pattern.compile("\\n( {4}| {8})(?:\\w[\\w\\[\\] ]* )?\\w+\\([^;{}]*\\) \\{\\n(?s:(.*?))\\n\\1\\}").matcher(code);
    int methods = 0;
    while (m.find()) {
      methods++;
      want(m.group(2).split("\\n").length <= 60, "a short method: " + m.group().trim().split("\\n")[0]);
    }
    want(methods > 100, "the methods were found: " + methods);
  }

  public static void main(String[] args) throws Exception {
    members();
    text();
    System.out.println(wrong == 0 ? "the face is as it ought to be" : wrong + " are not so");
    if (wrong != 0) System.exit(1);
  }
}
