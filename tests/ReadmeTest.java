import java.lang.reflect.Method;
import java.nio.file.Files;
import java.nio.file.Path;
import java.util.regex.Matcher;
import java.util.regex.Pattern;

/** Every line of Java in README.md is run, and answers the number that stands behind it. */
public final class ReadmeTest {
  private static final Pattern BLOCK = Pattern.compile("(?ms)^```java\\n(.*?)^```");
  private static final Pattern NEW = Pattern.compile("LeftAsFound hut = new LeftAsFound\\(\\);");
  private static final Pattern CALL = Pattern.compile("hut\\.(\\w+)\\(([-\\d, ]*)\\); *// (-?\\d+)(:.*)?");
  private static final Pattern FEED = Pattern.compile("for \\(char c : \"([^\"]*)\"\\.toCharArray\\(\\)\\) hut\\.feed\\(c\\);");

  private static LeftAsFound hut;
  private static int wrong;
  private static int asked;

  private static void complain(String line, String why) {
    wrong++;
    System.out.println("README.md: " + line + "  <- " + why);
  }

  private static void run(String line) throws Exception {
    Matcher call = CALL.matcher(line);
    Matcher feed = FEED.matcher(line);
    if (NEW.matcher(line).matches()) {
      hut = new LeftAsFound();
    } else if (hut != null && feed.matches()) {
      for (char c : feed.group(1).toCharArray()) hut.feed(c);
    } else if (hut != null && call.matches()) {
      asked++;
      long answer = answerOf(call.group(1), call.group(2).isBlank() ? new String[0] : call.group(2).split(","));
      if (answer != Long.parseLong(call.group(3))) complain(line, "it answers " + answer);
    } else {
      complain(line, "no call with its answer");
    }
  }

  private static long answerOf(String name, String[] told) throws Exception {
    for (Method method : LeftAsFound.class.getMethods()) {
      if (!method.getName().equals(name) || method.getParameterCount() != told.length) continue;
      Object[] arguments = new Object[told.length];
      for (int i = 0; i < told.length; i++) {
        long v = Long.parseLong(told[i].trim());
        if (method.getParameterTypes()[i] == long.class) arguments[i] = v;
        else arguments[i] = Math.toIntExact(v);
      }
      return ((Number) method.invoke(hut, arguments)).longValue();
    }
    throw new IllegalArgumentException("the class has no such call: " + name);
  }

  public static void main(String[] args) throws Exception {
    Matcher block = BLOCK.matcher(Files.readString(Path.of("README.md")));
    while (block.find()) {
      for (String line : block.group(1).split("\n")) run(line.trim());
    }
    if (asked == 0) complain("", "it shows no call");
    System.out.println(wrong == 0 ? "README.md: all " + asked + " answers are as shown" : wrong + " lines are not so");
    if (wrong != 0) System.exit(1);
  }
}
