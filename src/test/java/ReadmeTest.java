import java.io.ByteArrayOutputStream;
import java.io.IOException;
import java.io.PrintStream;
import java.lang.reflect.Method;
import java.lang.reflect.Modifier;
import java.nio.file.Files;
import java.nio.file.Path;
import java.util.NoSuchElementException;
import java.util.TreeSet;
import java.util.regex.Matcher;
import java.util.regex.Pattern;

/** README.md shows the example as it is, and tells of the class what is true. */
public final class ReadmeTest {
  private static final Pattern NUMBER = Pattern.compile("\\d+");
  private static final Pattern CALL = Pattern.compile("\\| \\d+ \\| `(\\w+)\\(");

  private final String readme;

  private ReadmeTest(String readme) {
    this.readme = readme;
  }

  /** What stands between the first such mark and the next end, or nothing. */
  private String between(String mark, String end) {
    int start = readme.indexOf(mark);
    if (start < 0) {
      Check.fail("README.md has no " + mark.trim());
      return "";
    }
    start += mark.length();
    int stop = readme.indexOf(end, start);
    return stop < 0 ? readme.substring(start) : readme.substring(start, stop);
  }

  private static String printedByExample() {
    PrintStream before = System.out;
    ByteArrayOutputStream printed = new ByteArrayOutputStream();
    try (PrintStream taken = new PrintStream(printed)) {
      System.setOut(taken);
      Example.main(new String[0]);
    } finally {
      System.setOut(before);
    }
    return printed.toString().replace(System.lineSeparator(), "\n");
  }

  private void testExample() throws IOException {
    String example = Files.readString(Path.of("src/example/java/Example.java"));
    Check.same("the example in README.md", between("```java\n", "```"), example);
    Check.same("what README.md tells as printed", between("```text\n", "```"), printedByExample());
  }

  private void testCalls() {
    TreeSet<String> told = new TreeSet<>();
    Matcher call = CALL.matcher(between("### The calls\n", "\n#"));
    while (call.find()) {
      told.add(call.group(1));
    }
    TreeSet<String> there = new TreeSet<>();
    for (Method method : TrapHart.class.getDeclaredMethods()) {
      if (Modifier.isPublic(method.getModifiers())) {
        there.add(method.getName());
      }
    }
    Check.same("the calls in README.md", told.toString(), there.toString());
  }

  private void testWords() {
    TreeSet<Integer> told = new TreeSet<>();
    for (String row : between("### The words", "\n#").split("\n")) {
      if (row.startsWith("| 4 * s, s from 1 to 15 |")) {
        for (int s = 1; s <= 15; s++) {
          told.add(4 * s);
        }
      } else if (row.startsWith("|")) {
        addNumbers(told, row.split("\\|")[1]);
      }
    }
    TreeSet<Integer> there = new TreeSet<>();
    for (int address = -256; address <= 1024; address += 4) {
      if (isWord(address)) {
        there.add(address);
      }
    }
    Check.same("the addresses in README.md", told.toString(), there.toString());
  }

  private void testRegisters() {
    TreeSet<Integer> told = new TreeSet<>();
    for (String row : between("### The registers", "\n#").split("\n")) {
      if (row.startsWith("| ")) {
        addNumbers(told, row.substring(row.indexOf('|', 1)));
      }
    }
    TreeSet<Integer> there = new TreeSet<>();
    for (int register = 0; register <= 4096; register++) {
      if (isRegister(register)) {
        there.add(register);
      }
    }
    Check.same("the registers in README.md", told.toString(), there.toString());
  }

  private static void addNumbers(TreeSet<Integer> numbers, String text) {
    Matcher number = NUMBER.matcher(text);
    while (number.find()) {
      numbers.add(Integer.valueOf(number.group()));
    }
  }

  private static boolean isWord(int address) {
    try {
      new TrapHart(0).load(address);
      return true;
    } catch (IndexOutOfBoundsException e) {
      return false;
    }
  }

  private static boolean isRegister(int register) {
    try {
      new TrapHart(0).read(register);
      return true;
    } catch (NoSuchElementException e) {
      return false;
    }
  }

  public static void main(String[] args) throws IOException {
    ReadmeTest test = new ReadmeTest(Files.readString(Path.of("README.md")));
    test.testExample();
    test.testCalls();
    test.testWords();
    test.testRegisters();
    Check.end("ReadmeTest");
  }
}
