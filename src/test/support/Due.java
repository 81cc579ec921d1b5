import java.io.IOException;
import java.nio.file.Files;
import java.nio.file.Path;
import java.util.Map;
import java.util.TreeMap;
import java.util.function.IntSupplier;

/**
 * What the tests of boundary cases share. Every answer that is due belongs to a sentence of the
 * document, told by its own words, so that a test can say at its end which words had no test.
 */
final class Due {
  static final Class<?> INDEX = IndexOutOfBoundsException.class;
  static final Class<?> TURN = IllegalStateException.class;
  static final Class<?> RANGE = IllegalArgumentException.class;
  static final Class<?> MEANING = UnsupportedOperationException.class;

  private static final Path DOCUMENT = Path.of("../shared/DOC.md");

  private final Map<String, String> sections = new TreeMap<>();
  private final Map<String, boolean[]> tested = new TreeMap<>();
  private String sentence = "";
  private int sentences = 0;
  private int answers = 0;
  private int wrong = 0;

  Due() throws IOException {
    if (!Files.isReadable(DOCUMENT)) {
      System.out.println("there is no document here: its words are not looked up");
      return;
    }
    for (String section : Files.readString(DOCUMENT).split("(?m)^## ")) {
      String[] parts = section.split("[:\n]", 2);
      String text = parts.length < 2 ? "" : parts[1];
      // A promise has its name and its signature ahead of its sentences.
      text = text.replaceFirst("(?s)^[^`]*`[^`]+\\)[^`]*`: ", "").replaceAll("```(text)?", " ");
      sections.put(parts[0], plain(text));
      tested.put(parts[0], new boolean[plain(text).length()]);
    }
  }

  private static String plain(String text) {
    return text.replaceAll("\\s+", " ").trim();
  }

  /** The due answers that follow belong to these words of a promise. */
  void sentence(String promise, String words) {
    sentence(promise, promise, words);
  }

  /** The same for words of another section that the promise rests on. */
  void sentence(String promise, String section, String words) {
    sentence = promise + ", '" + words + "'";
    sentences++;
    if (sections.isEmpty()) {
      return;
    }
    int at = sections.getOrDefault(section, "").indexOf(words);
    if (at < 0) {
      say("these are no words of the section " + section);
      return;
    }
    boolean[] marks = tested.get(section);
    for (int i = at; i < at + words.length(); i++) {
      marks[i] = true;
    }
  }

  void say(String text) {
    wrong++;
    System.out.println(sentence + ": " + text);
  }

  void is(String call, long got, long want) {
    answers++;
    if (got != want) {
      say(call + " answered " + got + ", due is " + want);
    }
  }

  void is(String call, boolean got, boolean want) {
    is(call, got ? 1 : 0, want ? 1 : 0);
  }

  void same(String call, Object got, Object want) {
    answers++;
    if (!got.equals(want)) {
      say(call + ": " + got + ", due is " + want);
    }
  }

  void refused(String call, Class<?> due, IntSupplier made) {
    answers++;
    String got;
    try {
      got = "" + made.getAsInt();
    } catch (RuntimeException e) {
      if (e.getClass() == due) {
        return;
      }
      got = e.getClass().getName();
    }
    say(call + " answered " + got + ", due is " + due.getName());
  }

  void refused(String call, Class<?> due, Runnable made) {
    refused(call, due, () -> {
      made.run();
      return 0;
    });
  }

  /** Strip after strip: piece, turned, begin, length, copies. */
  void strips(String when, SlabPatterns x, int... rows) {
    is(when + ": strips()", x.strips(), rows.length / 5);
    for (int i = 0; i < rows.length && i / 5 < x.strips(); i++) {
      is(when + ": strip(" + i / 5 + ", " + i % 5 + ")", x.strip(i / 5, i % 5), rows[i]);
    }
  }

  /** Every word of these sections must have had a test. */
  void allTested(String... names) {
    for (String name : sections.isEmpty() ? new String[0] : names) {
      String text = sections.getOrDefault(name, "");
      if (text.isEmpty()) {
        say("there is no section " + name);
      }
      StringBuilder untested = new StringBuilder();
      for (int i = 0; i < text.length(); i++) {
        untested.append(tested.get(name)[i] ? ' ' : text.charAt(i));
      }
      if (!untested.toString().replaceAll("[^A-Za-z0-9]", "").isEmpty()) {
        sentence = name;
        say("no test for: " + plain(untested.toString()));
      }
    }
  }

  void end() {
    System.out.println(wrong == 0 ? sentences + " sentences hold by " + answers + " answers"
        : wrong + " of " + answers + " answers are not as due");
    if (wrong != 0) {
      System.exit(1);
    }
  }
}
