import java.lang.reflect.Constructor;
import java.lang.reflect.Field;
import java.lang.reflect.Method;
import java.lang.reflect.Modifier;
import java.nio.file.Files;
import java.nio.file.Path;
import java.util.ArrayList;
import java.util.List;
import java.util.Set;
import java.util.TreeSet;
import java.util.regex.Matcher;
import java.util.regex.Pattern;

/** The rules of LANGUAGE.md that a program can look at: the face, and words that must not stand in the source. */
public final class LanguageTest {
  private static final String[] FACE = {
    "int act(int,int,int)", "int agreed(int,int)", "int alike(int,int)", "int ask(int)", "int cause(int,int,int)",
    "int count(int)", "int end(int,int)", "int feast(int)", "int feed(int,int)", "int fewest()",
    "int file(int,int,int,int)", "int filed(int,int,int,int)", "int find(int,int)", "int good(int,int)",
    "int grade(int,int,int)", "int item(int,int,long)", "int join(int,int)", "int judge(int)", "int kept(int)",
    "int law(int,int)", "int lawful(int,int,int)", "int let(int,int)", "int matter(int,int,int,int,int)",
    "int of(int,int)", "int out(int)", "int owed(int,int,int,int)", "int owes(int,int)", "int papers(int,int,int,int)",
    "int pass(int)", "int patch(int)", "int person(int)", "int plan(int,int,int)", "int planless()",
    "int reach(int,int)", "int reaches(int,int)", "int report(int)", "int row(int,int)", "int settle(int)",
    "int shift(int,int,int,int,int)", "int taken(int,int)", "int tape(int,int,int)", "int trace(int)",
    "int unlike(int)", "int watch(int,int,int)", "int week(int)", "int working(int,int)",
    "long habit(int,int)", "long read(int,int)"};

  public static void main(String[] args) throws Exception {
    List<String> faults = new ArrayList<>();
    face(faults);
    nested(faults);
    source(faults);
    for (String fault : faults) {
      System.out.println("LanguageTest: " + fault);
    }
    System.out.println("LanguageTest: " + (faults.isEmpty() ? "as due" : faults.size() + " faults"));
    if (!faults.isEmpty()) {
      System.exit(1);
    }
  }

  private static String signature(Method m) {
    List<String> types = new ArrayList<>();
    for (Class<?> type : m.getParameterTypes()) {
      types.add(type.getSimpleName());
    }
    return m.getReturnType().getSimpleName() + " " + m.getName() + "(" + String.join(",", types) + ")";
  }

  private static void face(List<String> faults) {
    Set<String> due = new TreeSet<>(List.of(FACE));
    Set<String> got = new TreeSet<>();
    Set<String> publicNames = new TreeSet<>();
    for (Method m : WrongsDesk.class.getDeclaredMethods()) {
      if (Modifier.isPublic(m.getModifiers())) {
        got.add(signature(m));
        publicNames.add(m.getName());
      } else if (!Modifier.isPrivate(m.getModifiers())) {
        faults.add("neither public nor private: " + m);
      }
    }
    if (!due.equals(got)) {
      faults.add("the face is " + got);
    }
    List<Class<?>> all = new ArrayList<>(List.of(WrongsDesk.class.getDeclaredClasses()));
    all.add(WrongsDesk.class);
    for (Class<?> c : all) {
      for (Method m : c.getDeclaredMethods()) {
        if (!Modifier.isPublic(m.getModifiers()) && publicNames.contains(m.getName())) {
          faults.add("bears the name of a public one: " + m);
        }
        if (m.getParameterCount() > 7) {
          faults.add("more than seven parameters: " + m);
        }
      }
    }
    int modifiers = WrongsDesk.class.getModifiers();
    if (!Modifier.isPublic(modifiers) || !Modifier.isFinal(modifiers)) {
      faults.add("the class is not public and final");
    }
    Constructor<?>[] made = WrongsDesk.class.getDeclaredConstructors();
    if (made.length != 1 || made[0].getParameterCount() != 0 || !Modifier.isPublic(made[0].getModifiers())) {
      faults.add("not just the one public constructor");
    }
    Set<String> constants = new TreeSet<>();
    for (Field f : WrongsDesk.class.getDeclaredFields()) {
      if (!Modifier.isPrivate(f.getModifiers())) {
        constants.add(f.getType() + " " + f.getName());
      }
      if (Modifier.isStatic(f.getModifiers()) && !Modifier.isFinal(f.getModifiers())) {
        faults.add("static and not final: " + f);
      }
    }
    if (!constants.equals(Set.of("int NONE", "int BAD", "int STATE", "int FULL", "long NO"))) {
      faults.add("the constants are " + constants);
    }
    if (WrongsDesk.NONE != -1 || WrongsDesk.BAD != -2 || WrongsDesk.STATE != -3 || WrongsDesk.FULL != -4
        || WrongsDesk.NO != Long.MIN_VALUE) {
      faults.add("a constant is not as told");
    }
  }

  private static void nested(List<String> faults) {
    Class<?>[] inside = WrongsDesk.class.getDeclaredClasses();
    if (inside.length + 1 > 12) {
      faults.add("more than twelve classes");
    }
    for (Class<?> c : inside) {
      if (!Modifier.isStatic(c.getModifiers())) {
        faults.add("not static: " + c);
      }
      if (Modifier.isPublic(c.getModifiers()) || Modifier.isProtected(c.getModifiers())) {
        faults.add("public or protected: " + c);
      }
      int fields = 0;
      for (Field f : c.getDeclaredFields()) {
        fields += Modifier.isStatic(f.getModifiers()) ? 0 : 1;
      }
      if (fields > 20) {
        faults.add("more than twenty fields: " + c);
      }
    }
  }

  private static void source(List<String> faults) throws Exception {
    String text = Files.readString(Path.of("src/main/java/WrongsDesk.java"));
    for (int i = 0; i < text.length(); i++) {
      if (text.charAt(i) > 126) {
        faults.add("a sign beyond 126 at " + i);
      }
    }
    String code = text.replaceAll("(?s)/\\*.*?\\*/", " ").replaceAll("//[^\n]*", " ")
        .replaceAll("\"[^\"\n]*\"", "\"\"").replaceAll("'[^'\n]'", "' '");
    Matcher banned = Pattern.compile("\\b(throw|throws|try|catch|finally|synchronized|assert|package|import|var|yield"
        + "|volatile|native|hashCode|toString|double|float|extends|implements|System\\.(?!arraycopy)\\w+)\\b"
        + "|->|::|\\w+Exact\\b|while\\s*\\(true\\)|for\\s*\\(;;\\)|static\\s*\\{").matcher(code);
    while (banned.find()) {
      faults.add("must not stand in the source: " + banned.group());
    }
  }
}
