import java.lang.reflect.Constructor;
import java.lang.reflect.Field;
import java.lang.reflect.Method;
import java.lang.reflect.Modifier;
import java.nio.file.Files;
import java.nio.file.Path;
import java.util.Arrays;
import java.util.Set;
import java.util.TreeSet;

/** The face of the class is the document's and no more, and its source keeps to LANGUAGE.md. */
public final class FaceTest {
  private static final Set<String> FACE = new TreeSet<>(Arrays.asList(
      "SlabPatterns()",
      "void plate(int,int,int) IllegalArgumentException",
      "int want(int,int,int,int,int) IllegalArgumentException UnsupportedOperationException",
      "void turn(int,boolean) IndexOutOfBoundsException",
      "void rules(int,int,int,int,int) IllegalArgumentException",
      "int bar(int,int) IllegalArgumentException UnsupportedOperationException",
      "int run(int) IllegalArgumentException",
      "boolean proved() IllegalStateException",
      "int strips() IllegalStateException",
      "int strip(int,int) IndexOutOfBoundsException IllegalStateException"
          + " IllegalArgumentException",
      "int copies(int) IndexOutOfBoundsException IllegalStateException",
      "int rest(int) IndexOutOfBoundsException IllegalStateException",
      "int check() IllegalStateException",
      "void clear()"));

  private static final String[] BARRED_WORDS = {"import ", "package ", "try", "catch", "finally",
      "synchronized", "assert", "->", "::", "System.", "Exact(", "instanceof", "double", "float"};

  private static int wrong = 0;

  private static void say(String text) {
    wrong++;
    System.out.println(text);
  }

  private static String names(Class<?>[] types) {
    StringBuilder b = new StringBuilder();
    for (Class<?> t : types) {
      b.append(b.length() == 0 ? "" : ",").append(t.getSimpleName());
    }
    return b.toString();
  }

  private static String told(String head, Class<?>[] takes, Class<?>[] throwing) {
    String thrown = names(throwing).replace(',', ' ');
    return head + "(" + names(takes) + ")" + (thrown.isEmpty() ? "" : " " + thrown);
  }

  private static void face() {
    Set<String> found = new TreeSet<>();
    Set<String> publicNames = new TreeSet<>();
    for (Constructor<?> c : SlabPatterns.class.getDeclaredConstructors()) {
      found.add(told("SlabPatterns", c.getParameterTypes(), c.getExceptionTypes()));
    }
    for (Method m : SlabPatterns.class.getDeclaredMethods()) {
      if (!Modifier.isPrivate(m.getModifiers())) {
        publicNames.add(m.getName());
        found.add(told(m.getReturnType().getSimpleName() + " " + m.getName(),
            m.getParameterTypes(), m.getExceptionTypes()));
      }
    }
    if (!found.equals(FACE)) {
      say("the face is " + found + ", due is " + FACE);
    }
    if (SlabPatterns.class.getModifiers() != (Modifier.PUBLIC | Modifier.FINAL)) {
      say("the class is not public and final alone");
    }
    for (Method m : SlabPatterns.class.getDeclaredMethods()) {
      if (Modifier.isPrivate(m.getModifiers()) && publicNames.contains(m.getName())) {
        say("a private method bears the name " + m.getName());
      }
    }
  }

  private static void fields(Class<?> c) {
    int own = 0;
    for (Field f : c.getDeclaredFields()) {
      int how = f.getModifiers();
      if (!Modifier.isPrivate(how)) {
        say(c.getSimpleName() + "." + f.getName() + " is not private");
      }
      if (Modifier.isStatic(how) && !Modifier.isFinal(how)) {
        say(c.getSimpleName() + "." + f.getName() + " is static and not final");
      }
      own += Modifier.isStatic(how) ? 0 : 1;
    }
    if (own > 20) {
      say(c.getSimpleName() + " has " + own + " fields");
    }
    for (Method m : c.getDeclaredMethods()) {
      if (m.getParameterCount() > 7) {
        say(c.getSimpleName() + "." + m.getName() + " takes more than seven");
      }
    }
  }

  private static void source() throws java.io.IOException {
    int number = 0;
    for (String line : Files.readAllLines(Path.of("src/main/java/SlabPatterns.java"))) {
      number++;
      String code = line.replaceAll("//.*|/\\*.*|^ *\\*.*|\"[^\"]*\"", "");
      for (String word : BARRED_WORDS) {
        if (code.contains(word)) {
          say("line " + number + " has '" + word.trim() + "'");
        }
      }
    }
  }

  public static void main(String[] args) throws java.io.IOException {
    face();
    fields(SlabPatterns.class);
    Class<?>[] inside = SlabPatterns.class.getDeclaredClasses();
    for (Class<?> c : inside) {
      fields(c);
      if (!Modifier.isStatic(c.getModifiers())) {
        say(c.getSimpleName() + " is not static");
      }
    }
    if (inside.length > 11) {
      say("there are " + (inside.length + 1) + " classes");
    }
    System.out.println(wrong == 0 ? "the face is as due" : wrong + " things are not as due");
    if (wrong != 0) {
      System.exit(1);
    }
  }
}
