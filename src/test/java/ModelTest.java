import java.lang.reflect.InvocationTargetException;
import java.lang.reflect.Method;
import java.util.ArrayList;
import java.util.Arrays;
import java.util.HashMap;
import java.util.List;
import java.util.Map;
import java.util.Random;
import java.util.TreeMap;

/** Long runs of calls, made by a random source with told seeds, on WrongsDesk and on PlainDesk: the answers are the same. */
public final class ModelTest {
  private static final Map<String, Method> OURS = methods(WrongsDesk.class);
  private static final Map<String, Method> PLAIN = methods(PlainDesk.class);
  private static final Map<String, TreeMap<Long, Integer>> SEEN = new TreeMap<>();

  private static final int CALLS = 512;

  private final Random random;
  private final WrongsDesk desk = new WrongsDesk();
  private final PlainDesk plain = new PlainDesk();
  private final List<String> log = new ArrayList<>();
  private boolean same = true;

  private ModelTest(long seed) {
    this.random = new Random(seed);
  }

  private static Map<String, Method> methods(Class<?> c) {
    Map<String, Method> all = new HashMap<>();
    for (Method m : c.getDeclaredMethods()) {
      if (!java.lang.reflect.Modifier.isPrivate(m.getModifiers()) && !m.isSynthetic()) {
        m.setAccessible(true);
        all.put(m.getName(), m);
      }
    }
    return all;
  }

  public static void main(String[] args) throws Exception {
    int runs = args.length > 0 ? Integer.parseInt(args[0]) : 1500;
    long from = args.length > 1 ? Long.parseLong(args[1]) : 1;
    int bad = 0;
    for (long seed = from; seed < from + runs; seed++) {
      ModelTest test = new ModelTest(seed);
      test.run();
      if (!test.same) {
        bad++;
        if (bad <= 3) {
          int start = Math.max(0, test.log.size() - 600);
          System.out.println("seed " + seed + ": " + String.join("; ", test.log.subList(start, test.log.size())));
        }
      }
    }
    if (args.length > 2) {
      SEEN.forEach((name, answers) -> System.out.println(name + " " + brief(answers)));
    }
    System.out.println("ModelTest: " + (bad == 0 ? "as due" : bad + " runs are not as due"));
    if (bad > 0) {
      System.exit(1);
    }
  }

  private static String brief(TreeMap<Long, Integer> answers) {
    StringBuilder text = new StringBuilder();
    int shown = 0;
    for (Map.Entry<Long, Integer> e : answers.entrySet()) {
      if (shown++ < 14) {
        text.append(e.getKey()).append("x").append(e.getValue()).append(" ");
      }
    }
    return text + "(" + answers.size() + ")";
  }

  /** Behind the 512th call what an object answers is free, so nothing is called then. */
  private long call(String name, long... args) throws Exception {
    if (log.size() >= CALLS || !same) {
      return 0;
    }
    long ours = invoke(OURS.get(name), desk, args);
    long due = invoke(PLAIN.get(name), plain, args);
    SEEN.computeIfAbsent(name, n -> new TreeMap<>()).merge(ours, 1, Integer::sum);
    log.add(name + Arrays.toString(args) + "=" + ours);
    if (ours != due) {
      log.add("DUE " + due);
      same = false;
    }
    return ours;
  }

  private static long invoke(Method m, Object on, long[] args) throws Exception {
    Object[] given = new Object[args.length];
    for (int i = 0; i < args.length; i++) {
      if (m.getParameterTypes()[i] == long.class) {
        given[i] = args[i];
      } else {
        given[i] = (int) args[i];
      }
    }
    try {
      return ((Number) m.invoke(on, given)).longValue();
    } catch (InvocationTargetException e) {
      throw new IllegalStateException(m.getName() + Arrays.toString(args), e.getCause());
    }
  }

  // arguments: mostly such as there are, at times just beside or far off

  private int from(int least, int most) {
    return least + random.nextInt(most - least + 1);
  }

  private boolean chance(int of) {
    return random.nextInt(of) == 0;
  }

  private int odd(int usual) {
    if (!chance(25)) {
      return usual;
    }
    int[] far = {-1, -2, Integer.MIN_VALUE, Integer.MAX_VALUE, 10, 9999, 10000, usual + 1, usual - 1};
    return far[random.nextInt(far.length)];
  }

  private int matter() {
    return odd(random.nextInt(Math.max(1, plain.count(3))));
  }

  private int kindIs(int kind) {
    for (int tries = 0; tries < 10; tries++) {
      int m = random.nextInt(Math.max(1, plain.count(3)));
      if (plain.of(m, 0) == kind) {
        return odd(m);
      }
    }
    return matter();
  }

  private int today() {
    return plain.count(0);
  }

  private int pastDay() {
    return odd(chance(3) ? random.nextInt(today() + 1) : Math.max(0, today() - random.nextInt(12)));
  }

  private int anyDay() {
    return odd(Math.min(9999, chance(3) ? pastDay() : today() + from(-6, 30)));
  }

  private int sort() {
    return odd(chance(6) ? from(1, 9) : from(1, 3));
  }

  private int body() {
    return odd(chance(6) ? from(0, 5) : from(0, 1));
  }

  private int tape() {
    return odd(chance(5) ? from(0, 5) : from(0, 2));
  }

  // texts of laws

  private String number() {
    switch (random.nextInt(6)) {
      case 0: return "" + from(0, 9999);
      case 1: return "0" + from(0, 99);
      case 2: return "" + from(10, 400);
      default: return "" + from(0, 12);
    }
  }

  private String expression(int within) {
    StringBuilder e = new StringBuilder(single(within));
    for (int n = 0; n < 4 && chance(2); n++) {
      e.append(chance(2) ? '|' : '&').append(single(within));
    }
    return e.toString();
  }

  private String single(int within) {
    int pick = random.nextInt(9);
    if (pick < 2 && within < 7) {
      return "!" + single(within + 1);
    }
    if (pick < 4 && within < 7) {
      return "(" + expression(within + 1) + ")";
    }
    switch (random.nextInt(5)) {
      case 0: return "t" + from(0, 2);
      case 1: return "a" + from(1, 3);
      case 2: return "w" + from(1, 3) + (chance(2) ? "<" : ">") + from(0, 12);
      case 3: return "l" + (chance(2) ? "<" : ">") + from(0, 120);
      default: return "d" + (chance(2) ? "<" : ">") + from(0, 30);
    }
  }

  private String clause(boolean office) {
    int pick = random.nextInt(10);
    if (office ? pick < 1 : pick < 8) {
      String owe = "owe " + from(1, chance(4) ? 9 : 3) + " " + number();
      return chance(2) ? owe : owe + (chance(2) ? " if " : " unless ") + expression(0);
    }
    switch (random.nextInt(chance(2) ? 8 : 7)) {
      case 0: return "scale " + number() + " " + from(1, 9);
      case 1: return "limit " + number();
      case 2: return "answer " + number();
      case 3: return "cap " + (chance(2) ? number() : "" + from(20, 5000));
      case 4: return "rate " + number();
      case 5: return "few " + from(0, 3);
      case 6: return "scale " + from(1, 20) + " " + from(1, 3);
      default: return "reach " + expression(0);
    }
  }

  private String lawText(boolean office) {
    StringBuilder text = new StringBuilder(clause(office));
    for (int n = 0; n < 11 && !chance(4) && text.length() < 120; n++) {
      text.append(';').append(clause(office));
    }
    if (chance(4)) {
      int at = random.nextInt(text.length() + 1);
      String signs = "owe 123;!()|&<>tawldreachlimitscpfny0909  :/";
      switch (random.nextInt(4)) {
        case 0: text.insert(at, signs.charAt(random.nextInt(signs.length()))); break;
        case 1: text.setLength(at); break;
        case 2: if (at < text.length()) text.setCharAt(at, signs.charAt(random.nextInt(signs.length()))); break;
        default: if (at < text.length()) text.deleteCharAt(at); break;
      }
    }
    if (chance(40)) {
      text = new StringBuilder("few 1;few 2;few 3;cap 8;cap 7;rate 1;rate 2;limit 900;answer 4;owe 1 2")
          .append(chance(2) ? ";" : "").append(chance(2) ? "few 9" : "");
    }
    return text.length() > 160 ? text.substring(0, 160) : text.toString();
  }

  private void tellLaw() throws Exception {
    boolean office = chance(2);
    String text = lawText(office);
    for (int i = 0; i < text.length(); ) {
      int n = Math.min(text.length() - i, chance(20) ? from(0, 4) : 4);
      int bytes = chance(2) ? random.nextInt() : 0;
      for (int k = 0; k < n; k++) {
        bytes = bytes << 8 | text.charAt(i + k);
      }
      call("feed", bytes, n);
      i += n;
    }
    call("law", office ? -1 : body(), chance(2) ? 0 : pastDay());
  }

  private void tellPapers() throws Exception {
    int tape = tape();
    int n = from(1, 4);
    call("tape", tape, chance(12) ? from(0, 3) : 2, odd(3 * n + from(0, 2)));
    for (int i = 0; i < n; i++) {
      call("item", tape, 3 * i, sort());
      call("item", tape, 3 * i + 1, pastDay());
      call("item", tape, 3 * i + 2, odd(from(-20, 20)));
    }
    call("papers", matter(), tape, odd(chance(6) ? from(-3, 4) : 0), odd(chance(4) ? from(1, 6) : n));
  }

  private void tellOrder() throws Exception {
    int tape = tape();
    int n = plain.count(9);
    call("tape", tape, chance(15) ? 1 : 0, odd(n + (chance(4) ? from(-1, 2) : 0)));
    List<Integer> order = new ArrayList<>();
    for (int i = 0; i < n; i++) {
      order.add(i);
    }
    java.util.Collections.shuffle(order, random);
    for (int i = 0; i < n; i++) {
      call("item", tape, i, odd(order.get(i)));
    }
    call("judge", tape);
  }

  private void tellText(String text) throws Exception {
    for (int i = 0; i < text.length(); i++) {
      call("feed", text.charAt(i), 1);
    }
  }

  /** A run in which most matters are found, on few topics, so that like ones, causes and promises come up. */
  private void findMany() throws Exception {
    tellText("owe 1 " + from(0, 4) + (chance(2) ? " unless t1" : "") + ";owe 2 " + from(0, 6) + ";owe 3 2 if w1>3");
    call("law", 0, 0);
    tellText("scale " + from(1, 9) + " 2;rate " + from(0, 90) + ";few " + from(0, 3));
    call("law", -1, 0);
    call("pass", from(20, 60));
    int many = from(4, 36);
    for (int m = 0; m < many; m++) {
      call("matter", from(0, 1), chance(6) ? 1 : 0, from(0, 2), from(0, today()), from(0, 200));
      if (chance(2)) {
        call("file", m, from(1, 3), from(0, today()), from(-9, 9));
      }
      call("ask", m);
      call("find", m, from(0, 2));
      if (chance(4)) {
        call("watch", m, from(1, 3), today() + from(-9, 9));
      }
    }
  }

  /** A run that comes to the end of what there is room for. */
  private void fill() throws Exception {
    switch (random.nextInt(5)) {
      case 0: for (int n = 0; n < 30; n++) call("feast", from(0, 60)); break;
      case 1: for (int n = 0; n < 20; n++) call("person", from(0, 1)); break;
      case 2: for (int n = 0; n < 13; n++) call("cause", from(-1, 1), from(0, 3), from(0, 3)); break;
      case 3:
        for (int n = 0; n < 14; n++) {
          tellText("few " + n);
          call("law", from(-1, 1), from(0, 3));
        }
        break;
      default:
        call("matter", 0, 0, 0, 0, 50);
        call("tape", 0, 2, 80);
        for (int n = 0; n < 78; n += 3) {
          call("item", 0, n, from(1, 9));
          call("item", 0, n + 2, from(-99, 99));
        }
        for (int n = 0; n < 10; n++) {
          call("papers", 0, 0, 0, 20 - n % 7);
        }
    }
  }

  private void run() throws Exception {
    int laws = 0;
    call("person", odd(from(0, 1)));
    call("person", from(0, 1));
    if (chance(3)) {
      findMany();
    }
    if (chance(3)) {
      fill();
    }
    for (int n = 0; n < 2; n++) {
      tellLaw();
    }
    int plansAt = random.nextInt(3);
    while (log.size() < CALLS && same) {
      int pick = random.nextInt(100);
      if (pick < 9) {
        call("matter", odd(random.nextInt(Math.max(1, plain.count(2)))), body(), odd(from(0, 2)), pastDay(),
            odd(chance(3) ? from(0, 9999) : from(0, 130)));
      } else if (pick < 12) {
        if (laws < 10) {
          tellLaw();
          laws++;
        }
      } else if (pick < 24) {
        matters();
      } else if (pick < 38) {
        files();
      } else if (pick < 55) {
        harm();
      } else if (pick < 70) {
        reportsAndHands();
      } else if (pick < 78) {
        weeks(plansAt);
      } else if (pick < 90) {
        actsAndTapes();
      } else {
        daysAndPeople();
      }
    }
  }

  private void daysAndPeople() throws Exception {
    switch (random.nextInt(6)) {
      case 0: call("feast", chance(3) ? from(0, 9999) : anyDay()); break;
      case 1: call("working", anyDay(), odd(chance(2) ? from(0, 400) : from(0, 9))); break;
      case 2: call("person", odd(from(0, 1))); break;
      case 3: call("let", odd(random.nextInt(plain.count(2) + 1)), odd(from(0, 1))); break;
      default: call("pass", odd(chance(9) ? from(1, 400) : from(1, 12))); break;
    }
  }

  private void matters() throws Exception {
    switch (random.nextInt(14)) {
      case 0: call("of", matter(), odd(from(0, 9))); break;
      case 1: call("out", kindIs(0)); break;
      case 2: case 3: call("ask", kindIs(0)); break;
      case 4: case 5: case 6: call("find", kindIs(2), odd(chance(2) ? from(0, 2) : from(0, 99999))); break;
      case 7: if (chance(2)) call("settle", kindIs(2)); break;
      case 8: if (chance(2)) call("join", kindIs(0), matter()); break;
      case 9: call("watch", kindIs(3), sort(), anyDay()); break;
      case 10: call("reach", matter(), anyDay()); break;
      case 11: call("end", kindIs(2), odd(from(0, 1))); break;
      default: call("kept", kindIs(6)); break;
    }
  }

  private void files() throws Exception {
    switch (random.nextInt(8)) {
      case 0: tellPapers(); break;
      case 1: call("patch", matter()); break;
      case 2: case 3: call("filed", matter(), sort(), anyDay(), odd(from(0, 3))); break;
      case 4: call("file", kindIs(6), sort(), pastDay(), odd(from(-20, 20))); break;
      default: call("file", matter(), sort(), pastDay(), odd(from(-20, 20))); break;
    }
  }

  private void harm() throws Exception {
    switch (random.nextInt(12)) {
      case 0: call("lawful", odd(from(-1, 1)), anyDay(), odd(from(0, 8))); break;
      case 1: call("owes", matter(), anyDay()); break;
      case 2: case 3: case 4: call("owed", matter(), anyDay(), odd(from(0, 4)), odd(from(0, 3))); break;
      case 5: case 6: call("good", matter(), chance(4) ? from(0, 9999) : anyDay()); break;
      case 7: call("alike", kindIs(3), kindIs(chance(2) ? 3 : 6)); break;
      case 8: call("unlike", odd(from(0, 2))); break;
      case 9: call("cause", chance(2) ? -1 : body(), odd(from(0, 3)), odd(from(0, 3))); break;
      case 10: call("reaches", odd(random.nextInt(plain.count(7) + 1)), odd(from(0, 1))); break;
      default: call("fewest"); break;
    }
  }

  private void reportsAndHands() throws Exception {
    switch (random.nextInt(8)) {
      case 0: case 1: call("report", odd(from(0, 7))); break;
      case 2: case 3: call("row", odd(from(0, 6)), odd(from(0, 3))); break;
      case 4: case 5: call("grade", odd(from(0, 5)), matter(), odd(from(0, 9))); break;
      case 6: call("habit", odd(from(0, 5)), odd(from(0, 1))); break;
      default: call("agreed", odd(from(0, 5)), odd(from(0, 5))); break;
    }
  }

  private void weeks(int plansAt) throws Exception {
    switch (random.nextInt(12)) {
      case 0: call("planless"); break;
      case 1: tellOrder(); break;
      case 2: call("week", odd(from(0, 1))); break;
      case 3: call("week", odd(10 + from(0, 7))); break;
      default: call("plan", matter(), odd(from(1, 9)), odd(Math.min(9999, today() + from(0, 25 * (1 + plansAt)))));
    }
  }

  private void actsAndTapes() throws Exception {
    switch (random.nextInt(12)) {
      case 0: call("act", matter(), odd(from(0, 2)), chance(2) ? random.nextInt() : from(-9, 9)); break;
      case 1: call("act", kindIs(from(0, 6)), from(0, 2), from(-9, 9)); break;
      case 2: case 3: call("trace", odd(from(0, 11))); break;
      case 4: call("taken", kindIs(from(0, 6)), odd(from(0, 6))); break;
      case 5: case 6: call("count", odd(from(0, 10))); break;
      case 7: call("tape", tape(), odd(from(-1, 3)), odd(chance(2) ? from(0, 80) : from(0, 6))); break;
      case 8: call("item", tape(), odd(from(0, 6)), chance(2) ? random.nextLong() : from(-300, 300)); break;
      case 9: call("read", tape(), odd(from(0, 6))); break;
      default: call("shift", tape(), odd(from(0, 3)), tape(), odd(from(0, 3)), odd(from(0, 4))); break;
    }
  }
}
