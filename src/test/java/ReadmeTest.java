import java.io.IOException;
import java.lang.reflect.Method;
import java.lang.reflect.Modifier;
import java.nio.file.Files;
import java.nio.file.Path;
import java.util.ArrayList;
import java.util.List;

/** README.md tells the truth: its example, its calls and its tests are those of the project. */
public final class ReadmeTest {
  private static final Path TESTS = Path.of("src/test/java");
  private static int wrong = 0;

  private static void say(String text) {
    wrong++;
    System.out.println(text);
  }

  private static void is(String call, Object got, Object due) {
    if (!got.equals(due)) {
      say(call + " answered " + got + ", due is " + due);
    }
  }

  private static void example() {
    // from here on as in README.md
    SlabPatterns x = new SlabPatterns();
    x.plate(100, 30, 2);                // length, width, kerf
    int a = x.want(20, 25, 9, 10, 10);  // low, high, across, worth, many: piece 0
    int b = x.want(31, 31, 14, 17, 3);  // piece 1
    x.turn(b, true);                    // piece 1 may be turned
    x.rules(2, 20, 0, 0, 10);           // stages, knives, front trim, end trim, least rest
    x.bar(50, 60);                      // no strip begins or ends within it
    int worth = x.run(1000);            // 94: the best that 1000 nodes find
    boolean all = x.proved();           // true: no strip was left untried
    int many = x.strips();              // 4
    int begin = x.strip(1, 2);          // 25: where strip 1 begins
    int length = x.strip(0, 3);         // 23: strip 0 as stretched
    int cut = x.copies(a);              // 6: copies of piece 0 in all strips
    int rest = x.rest(0);               // 0: nothing is left behind the last strip and its kerf
    int right = x.check();              // 0: the pattern is right
    x.rules(2, 0, 0, 0, 10);            // without knives a strip has one copy
    int wrong = x.check();              // 1: strip 0 is the first one that is not right
    // up to here
    is("run(1000)", worth, 94);
    is("proved()", all, true);
    is("strips()", many, 4);
    is("strip(1, 2)", begin, 25);
    is("strip(0, 3)", length, 23);
    is("copies(0)", cut, 6);
    is("rest(0)", rest, 0);
    is("check()", right, 0);
    is("check() without knives", wrong, 1);
  }

  private static List<String> between(List<String> lines, String first, String last) {
    List<String> found = new ArrayList<>();
    boolean within = false;
    for (String line : lines) {
      if (line.trim().equals(last)) {
        within = false;
      }
      if (within) {
        found.add(line.trim());
      }
      if (line.trim().equals(first)) {
        within = true;
      }
    }
    return found;
  }

  private static void sameExample(List<String> readme) throws IOException {
    List<String> told = between(readme, "```java", "```");
    List<String> own = between(Files.readAllLines(TESTS.resolve("ReadmeTest.java")),
        "// from here on as in README.md", "// up to here");
    if (told.isEmpty() || !told.equals(own)) {
      say("the example of README.md is not the one that is tested here: " + told);
    }
  }

  private static void allCalls(List<String> readme) {
    for (Method m : SlabPatterns.class.getDeclaredMethods()) {
      if (!Modifier.isPublic(m.getModifiers())) {
        continue;
      }
      String row = "\\| `" + m.getName() + "\\("
          + (m.getParameterCount() == 0 ? "" : "\\w+" + ", \\w+".repeat(m.getParameterCount() - 1))
          + "\\)` \\|.*";
      if (readme.stream().noneMatch(line -> line.matches(row))) {
        say("README.md has no row for " + m.getName());
      }
    }
  }

  private static void allTests(String readme) throws IOException {
    try (java.util.stream.Stream<Path> tests = Files.list(TESTS)) {
      tests.map(test -> test.getFileName().toString().replace(".java", "")).forEach(name -> {
        if (!readme.contains("- `" + name + "`: ")) {
          say("README.md does not tell of " + name);
        }
      });
    }
    if (!readme.contains("```sh\n.ci/run\n```")) {
      say("README.md does not say how to run the tests");
    }
  }

  public static void main(String[] args) throws IOException {
    List<String> readme = Files.readAllLines(Path.of("README.md"));
    example();
    sameExample(readme);
    allCalls(readme);
    allTests(String.join("\n", readme));
    System.out.println(wrong == 0 ? "README.md is as due" : wrong + " things are not as due");
    if (wrong != 0) {
      System.exit(1);
    }
  }
}
