import java.math.BigInteger;
import java.util.ArrayList;
import java.util.HashSet;
import java.util.List;
import java.util.Map;
import java.util.Set;
import java.util.TreeMap;
import java.util.TreeSet;

/**
 * The document once more, as slowly and plainly as its words go and with the whole Java library: days counted one
 * by one, every order of a week tried, laws kept as texts. ModelTest compares WrongsDesk with it.
 */
final class PlainDesk {
  private static final int NONE = -1, BAD = -2, STATE = -3, FULL = -4;
  private static final int NOTHING = -11, CAST = -12, PLACE = -13, SIZE = -14;

  private record Paper(Thing matter, int sort, int day, int word, int entered) { }

  private record Statute(int body, int from, String text) { }

  private record Due(int sort, int due, int wrong, int clause, int first) { }

  private record Cause(int body, int sort, int wrong) { }

  private record Job(int matter, int work, int day) { }

  private record Line(int matters, int body, int topic, int kind) { }

  private static final class Thing {
    int n, person, body, topic, day, loss, kind, asked = -1, award = -1, to = -1, torn = -1;
    int promiseSort, promiseDay, promiseAt;
    Map<Integer, Integer> grades = new TreeMap<>();
  }

  private int today;
  private final Set<Integer> feasts = new TreeSet<>();
  private final List<Integer> lets = new ArrayList<>();
  private final List<Thing> things = new ArrayList<>();
  private final List<Paper> papers = new ArrayList<>();
  private final List<Statute> laws = new ArrayList<>();
  private final StringBuilder text = new StringBuilder();
  private final List<Cause> causes = new ArrayList<>();
  private List<Line> lines = new ArrayList<>();
  private Set<Integer> hidden = new HashSet<>();
  private final List<Job> jobs = new ArrayList<>();
  private List<Integer> trace = new ArrayList<>();
  private final Object[] tapes = new Object[6];

  private static boolean in(int n, int least, int most) {
    return least <= n && n <= most;
  }

  private Thing thing(int n) {
    return in(n, 0, things.size() - 1) ? things.get(n) : null;
  }

  // days, people

  int pass(int n) {
    if (!in(n, 1, 400) || today + n > 9999) return BAD;
    return today += n;
  }

  private boolean off(int day) {
    return day % 7 == 5 || day % 7 == 6 || feasts.contains(day);
  }

  int feast(int day) {
    if (!in(day, 0, 9999)) return BAD;
    if (off(day)) return STATE;
    if (feasts.size() == 20) return FULL;
    feasts.add(day);
    return feasts.size();
  }

  private int nth(int day, int n) {
    int at = day;
    for (int left = n; left > 0; ) {
      at++;
      if (!off(at)) left--;
    }
    return at;
  }

  int working(int day, int n) {
    return in(day, 0, 9999) && in(n, 0, 400) ? nth(day, n) : BAD;
  }

  int person(int let) {
    if (!in(let, 0, 1)) return BAD;
    if (lets.size() == 20) return FULL;
    lets.add(let);
    return lets.size() - 1;
  }

  int let(int person, int is) {
    if (!in(person, 0, lets.size() - 1)) return NONE;
    if (!in(is, 0, 1)) return BAD;
    return lets.set(person, is);
  }

  // matters

  int matter(int person, int body, int topic, int day, int loss) {
    if (!in(person, 0, lets.size() - 1) || !in(body, 0, 5)) return NONE;
    if (!in(topic, 0, 9) || !in(day, 0, today) || !in(loss, 0, 9999)) return BAD;
    if (things.size() == 40) return FULL;
    Thing t = new Thing();
    t.n = things.size();
    t.person = person;
    t.body = body;
    t.topic = topic;
    t.day = day;
    t.loss = loss;
    things.add(t);
    return t.n;
  }

  int of(int matter, int what) {
    Thing t = thing(matter);
    if (t == null || !in(what, 0, 9)) return -5;
    return new int[] {t.kind, t.person, t.body, t.topic, t.day, t.loss, t.asked, t.award, t.to, t.torn}[what];
  }

  int out(int matter) {
    Thing t = thing(matter);
    if (t == null) return NONE;
    if (t.kind != 0 || inReach(t, today)) return STATE;
    t.kind = 1;
    return 1;
  }

  int ask(int matter) {
    Thing t = thing(matter);
    if (t == null) return NONE;
    if (t.kind != 0 || !inReach(t, today)) return STATE;
    t.kind = 2;
    t.asked = today;
    return nth(t.asked, figure(-1, t.asked, "answer", 1, 30));
  }

  int find(int matter, int award) {
    Thing t = thing(matter);
    if (t == null) return NONE;
    if (!in(award, 0, 99999)) return BAD;
    long wrongs = dues(t, today).stream().filter(d -> d.wrong == 1 || d.wrong == 2).count();
    if (t.kind != 2 || wrongs == 0) return STATE;
    t.kind = 3;
    t.award = award;
    return (int) wrongs;
  }

  int settle(int matter) {
    Thing t = thing(matter);
    if (t == null) return NONE;
    if (t.kind != 2) return STATE;
    t.kind = 4;
    return 1;
  }

  int join(int matter, int to) {
    Thing t = thing(matter);
    if (t == null || thing(to) == null) return NONE;
    if (matter == to) return BAD;
    if (t.kind != 0 || thing(to).kind == 1 || thing(to).kind == 5) return STATE;
    t.kind = 5;
    t.to = to;
    return 1;
  }

  int watch(int matter, int sort, int day) {
    Thing t = thing(matter);
    if (t == null) return NONE;
    if (!in(sort, 1, 9) || !in(day, 0, 9999)) return BAD;
    if (t.kind != 3) return STATE;
    t.kind = 6;
    t.promiseSort = sort;
    t.promiseDay = day;
    t.promiseAt = papers.size();
    return 1;
  }

  int reach(int matter, int day) {
    Thing t = thing(matter);
    if (t == null) return NONE;
    if (!in(day, t.day, 9999)) return BAD;
    return inReach(t, day) ? 1 : 0;
  }

  int end(int matter, int what) {
    Thing t = thing(matter);
    if (t == null || !in(what, 0, 1)) return NONE;
    if (t.kind != 2) return STATE;
    int end = nth(t.asked, figure(-1, t.asked, "answer", 1, 30));
    return what == 0 ? end : end < today ? 1 : 0;
  }

  int kept(int matter) {
    Thing t = thing(matter);
    if (t == null) return NONE;
    if (t.kind != 6) return STATE;
    List<Paper> since = papers.subList(t.promiseAt, papers.size()).stream()
        .filter(p -> p.matter == t && p.sort == t.promiseSort).toList();
    if (since.stream().anyMatch(p -> p.day <= t.promiseDay)) return 1;
    if (!since.isEmpty()) return 2;
    return today > t.promiseDay ? 3 : 0;
  }

  // files

  int file(int matter, int sort, int day, int word) {
    Thing t = thing(matter);
    if (t == null) return NONE;
    if (!in(sort, 1, 9) || !in(day, 0, today) || !in(word, -99, 99)) return BAD;
    if (papers.size() == 150) return FULL;
    papers.add(new Paper(t, sort, day, word, today));
    return papers.size();
  }

  int papers(int matter, int tape, int i, int n) {
    Thing t = thing(matter);
    if (t == null || !in(tape, 0, 5)) return NONE;
    if (!in(n, 1, 20)) return BAD;
    Object held = tapes[tape];
    if (held != null && !(held instanceof int[])) return CAST;
    int[] row = (int[]) held;
    for (int k = 0; k < n; k++) {
      int[] three = new int[3];
      for (int part = 0; part < 3; part++) {
        long place = (long) i + 3 * k + part;
        if (row == null || place < 0 || place >= row.length) {
          if (t.torn == -1) t.torn = today;
          return k;
        }
        three[part] = row[(int) place];
      }
      if (file(matter, three[0], three[1], three[2]) < 0) return k;
    }
    return n;
  }

  int patch(int matter) {
    Thing t = thing(matter);
    if (t == null) return NONE;
    if (t.torn == -1) return STATE;
    t.torn = -1;
    return 1;
  }

  private List<Paper> known(Thing t, int sort, int day) {
    return papers.stream().filter(p -> p.matter == t && p.sort == sort && p.entered <= day).toList();
  }

  private Paper first(Thing t, int sort, int day) {
    Paper first = null;
    for (Paper p : known(t, sort, day)) if (first == null || p.day < first.day) first = p;
    return first;
  }

  private Paper latest(Thing t, int sort, int day) {
    Paper latest = null;
    for (Paper p : known(t, sort, day)) if (latest == null || p.day >= latest.day) latest = p;
    return latest;
  }

  int filed(int matter, int sort, int known, int what) {
    Thing t = thing(matter);
    if (t == null || !in(sort, 1, 9) || !in(known, 0, 9999) || !in(what, 0, 3)) return -100;
    if (what == 3) return known(t, sort, known).size();
    if (known(t, sort, known).isEmpty()) return -100;
    return what == 0 ? latest(t, sort, known).day : what == 1 ? latest(t, sort, known).word : first(t, sort, known).day;
  }

  // laws

  int feed(int bytes, int n) {
    if (!in(n, 0, 4)) return BAD;
    if (text.length() + n > 160) return FULL;
    for (int i = n; i > 0; i--) text.append((char) ((bytes >> 8 * (i - 1)) & 0xff));
    return text.length();
  }

  int law(int body, int day) {
    if (!in(body, -1, 5)) return NONE;
    if (!in(day, 0, 9999)) return BAD;
    if (laws.size() == 12) return FULL;
    String told = text.toString();
    text.setLength(0);
    int fault = new Grammar(told).fault();
    if (fault >= 0) return -10 - fault;
    laws.add(new Statute(body, day, told));
    return laws.size() - 1;
  }

  /** All ways to read a text at once, as sets of places; the furthest place that was looked at in vain is the fault. */
  private static final class Grammar {
    private final String text;
    private int vain = 0;

    Grammar(String text) {
      this.text = text;
    }

    int fault() {
      Set<Integer> at = clause(Set.of(0));
      for (int n = 1; n < 10; n++) {
        if (at.contains(text.length())) return -1;
        Set<Integer> more = clause(word(at, ";"));
        at = more;
      }
      if (at.contains(text.length())) return -1;
      for (int place : at) vain = Math.max(vain, place);
      return vain;
    }

    private static Set<Integer> any(List<Set<Integer>> all) {
      Set<Integer> sum = new TreeSet<>();
      all.forEach(sum::addAll);
      return sum;
    }

    private Set<Integer> one(Set<Integer> at, String signs) {
      Set<Integer> to = new TreeSet<>();
      for (int place : at) {
        if (place < text.length() && signs.indexOf(text.charAt(place)) >= 0) to.add(place + 1);
        else vain = Math.max(vain, place);
      }
      return to;
    }

    private Set<Integer> word(Set<Integer> at, String word) {
      Set<Integer> now = at;
      for (char c : word.toCharArray()) now = one(now, String.valueOf(c));
      return now;
    }

    private Set<Integer> digits(Set<Integer> at, String first, int most) {
      Set<Integer> now = one(at, first);
      List<Set<Integer>> all = new ArrayList<>(List.of(now));
      for (int n = 1; n < most; n++) {
        now = one(now, "0123456789");
        all.add(now);
      }
      return any(all);
    }

    private Set<Integer> number(Set<Integer> at) {
      return digits(at, "0123456789", 4);
    }

    private Set<Integer> clause(Set<Integer> at) {
      Set<Integer> plain = number(word(digits(word(at, "owe "), "123456789", 1), " "));
      List<Set<Integer>> all = new ArrayList<>();
      all.add(plain);
      all.add(either(word(plain, " if "), 0));
      all.add(either(word(plain, " unless "), 0));
      all.add(either(word(at, "reach "), 0));
      for (String w : List.of("limit ", "answer ", "cap ", "rate ", "few ")) all.add(number(word(at, w)));
      all.add(digits(word(number(word(at, "scale ")), " "), "123456789", 4));
      return any(all);
    }

    private Set<Integer> either(Set<Integer> at, int within) {
      if (at.isEmpty()) return at;
      Set<Integer> t = both(at, within);
      return any(List.of(t, either(word(t, "|"), within)));
    }

    private Set<Integer> both(Set<Integer> at, int within) {
      if (at.isEmpty()) return at;
      Set<Integer> f = single(at, within);
      return any(List.of(f, both(word(f, "&"), within)));
    }

    private Set<Integer> single(Set<Integer> at, int within) {
      if (at.isEmpty()) return at;
      List<Set<Integer>> all = new ArrayList<>();
      if (within < 6) {
        all.add(single(word(at, "!"), within + 1));
        all.add(word(either(word(at, "("), within + 1), ")"));
      }
      all.add(digits(word(at, "t"), "0123456789", 1));
      all.add(digits(word(at, "a"), "123456789", 1));
      all.add(digits(one(digits(word(at, "w"), "123456789", 1), "<>"), "0123456789", 2));
      all.add(number(one(one(at, "ld"), "<>")));
      return any(all);
    }
  }

  private int lawNumber(int body, int day) {
    int best = -1;
    for (int i = 0; i < laws.size(); i++) {
      Statute s = laws.get(i);
      if (s.body == body && s.from <= day && (best < 0 || s.from >= laws.get(best).from)) best = i;
    }
    return best;
  }

  private List<String> clauses(int body, int day, String word) {
    int n = lawNumber(body, day);
    List<String> all = new ArrayList<>();
    if (n >= 0) for (String clause : laws.get(n).text.split(";")) if (clause.startsWith(word + " ")) all.add(clause);
    return all;
  }

  private int figure(int body, int day, String word, int place, int without) {
    List<String> all = clauses(body, day, word);
    return all.isEmpty() ? without : Integer.parseInt(all.get(all.size() - 1).split(" ")[place]);
  }

  int lawful(int body, int day, int what) {
    if (!in(body, -1, 5) || !in(day, 0, 9999)) return -5;
    switch (what) {
      case 0: return lawNumber(body, day);
      case 1: return clauses(body, day, "owe").size();
      case 2: return figure(body, day, "limit", 1, 9999);
      case 3: return figure(body, day, "answer", 1, 30);
      case 4: return figure(body, day, "scale", 1, 0);
      case 5: return figure(body, day, "scale", 2, 1);
      case 6: return figure(body, day, "cap", 1, 9999);
      case 7: return figure(body, day, "rate", 1, 0);
      case 8: return figure(body, day, "few", 1, 1);
      default: return -5;
    }
  }

  private static List<String> parts(String e, char sign) {
    List<String> all = new ArrayList<>();
    int open = 0;
    int from = 0;
    for (int i = 0; i < e.length(); i++) {
      if (e.charAt(i) == '(') open++;
      if (e.charAt(i) == ')') open--;
      if (open == 0 && e.charAt(i) == sign) {
        all.add(e.substring(from, i));
        from = i + 1;
      }
    }
    all.add(e.substring(from));
    return all;
  }

  private boolean holds(String e, Thing t, int day) {
    List<String> ors = parts(e, '|');
    if (ors.size() > 1) return ors.stream().anyMatch(p -> holds(p, t, day));
    List<String> ands = parts(e, '&');
    if (ands.size() > 1) return ands.stream().allMatch(p -> holds(p, t, day));
    if (e.charAt(0) == '!') return !holds(e.substring(1), t, day);
    if (e.charAt(0) == '(') return holds(e.substring(1, e.length() - 1), t, day);
    int digit = e.charAt(1) - '0';
    switch (e.charAt(0)) {
      case 't': return t.topic == digit;
      case 'a': return !known(t, digit, day).isEmpty();
      case 'w':
        Paper p = latest(t, digit, day);
        return p != null && compare(p.word, e.substring(2));
      case 'l': return compare(t.loss, e.substring(1));
      default: return compare(day - t.day, e.substring(1));
    }
  }

  private static boolean compare(int value, String told) {
    int n = Integer.parseInt(told.substring(1));
    return told.charAt(0) == '<' ? value < n : value > n;
  }

  private boolean inReach(Thing t, int day) {
    List<String> reach = clauses(-1, day, "reach");
    boolean in = reach.isEmpty() || holds(reach.get(reach.size() - 1).substring(6), t, day);
    return in && day - t.day <= figure(-1, day, "limit", 1, 9999);
  }

  private List<Due> dues(Thing t, int day) {
    List<Due> all = new ArrayList<>();
    List<String> owes = clauses(t.body, t.day, "owe");
    for (int c = 0; c < owes.size(); c++) {
      String[] words = owes.get(c).split(" ");
      if (words.length > 3 && holds(words[4], t, day) != words[3].equals("if")) continue;
      int sort = Integer.parseInt(words[1]);
      int due = nth(t.day, Integer.parseInt(words[2]));
      Paper first = first(t, sort, day);
      int wrong = 0;
      if (first != null && first.day > due) wrong = 1;
      if (first == null && day > due) wrong = t.torn != -1 && day >= t.torn ? 3 : 2;
      all.add(new Due(sort, due, wrong, c, first == null ? -1 : first.day));
    }
    return all;
  }

  int owes(int matter, int day) {
    Thing t = thing(matter);
    if (t == null) return NONE;
    return in(day, t.day, 9999) ? dues(t, day).size() : BAD;
  }

  int owed(int matter, int day, int i, int what) {
    int n = owes(matter, day);
    if (!in(i, 0, n - 1) || !in(what, 0, 3)) return -5;
    Due d = dues(thing(matter), day).get(i);
    return new int[] {d.sort, d.due, d.wrong, d.clause}[what];
  }

  // harm, like ones, causes

  int good(int matter, int day) {
    Thing t = thing(matter);
    if (t == null) return NONE;
    if (!in(day, t.day, 9999)) return BAD;
    BigInteger sum = BigInteger.ZERO;
    for (Due d : dues(t, day)) {
      int whole = d.wrong == 1 ? (d.first - d.due) / figure(-1, day, "scale", 2, 1) : 0;
      sum = sum.add(BigInteger.valueOf(whole).multiply(BigInteger.valueOf(figure(-1, day, "scale", 1, 0))));
      if (d.wrong == 2) sum = sum.add(BigInteger.valueOf(t.loss));
    }
    sum = sum.min(BigInteger.valueOf(t.loss)).min(BigInteger.valueOf(figure(-1, day, "cap", 1, 9999)));
    BigInteger more = sum.multiply(BigInteger.valueOf(figure(-1, day, "rate", 1, 0)))
        .multiply(BigInteger.valueOf((day - t.day) / 365));
    return sum.multiply(BigInteger.valueOf(1000)).add(more).divide(BigInteger.valueOf(1000)).intValueExact();
  }

  private static boolean found(Thing t) {
    return t.kind == 3 || t.kind == 6;
  }

  private boolean like(Thing a, Thing b) {
    return found(a) && found(b) && a.body == b.body && a.topic == b.topic && wrongs(a).equals(wrongs(b));
  }

  private Set<List<Integer>> wrongs(Thing t) {
    Set<List<Integer>> all = new HashSet<>();
    for (Due d : dues(t, today)) if (d.wrong == 1 || d.wrong == 2) all.add(List.of(d.sort, d.wrong));
    return all;
  }

  int alike(int a, int b) {
    if (thing(a) == null || thing(b) == null) return NONE;
    if (a == b) return BAD;
    if (!found(thing(a)) || !found(thing(b))) return STATE;
    return like(thing(a), thing(b)) ? 1 : 0;
  }

  int unlike(int what) {
    if (!in(what, 0, 2)) return NONE;
    List<int[]> twos = new ArrayList<>();
    for (Thing a : things) {
      for (Thing b : things) {
        if (a.n < b.n && a.award != b.award && like(a, b)) twos.add(new int[] {a.n, b.n});
      }
    }
    return what == 0 ? twos.size() : twos.isEmpty() ? NONE : twos.get(0)[what - 1];
  }

  int cause(int body, int sort, int wrong) {
    if (!in(body, -1, 5)) return NONE;
    if (!in(sort, 0, 9) || !in(wrong, 0, 3)) return BAD;
    if (causes.size() == 12) return FULL;
    causes.add(new Cause(body, sort, wrong));
    return causes.size() - 1;
  }

  private boolean hits(Cause c, Thing t) {
    return (c.body == -1 || c.body == t.body) && dues(t, today).stream().anyMatch(
        d -> (c.sort == 0 || c.sort == d.sort) && d.wrong > 0 && (c.wrong == 0 || c.wrong == d.wrong));
  }

  int reaches(int cause, int what) {
    if (!in(cause, 0, causes.size() - 1) || !in(what, 0, 1)) return NONE;
    return (int) things.stream().filter(t -> found(t) == (what == 0) && hits(causes.get(cause), t)).count();
  }

  int fewest() {
    List<Set<Integer>> hit = new ArrayList<>();
    Set<Integer> all = new HashSet<>();
    for (Cause c : causes) {
      Set<Integer> of = new HashSet<>();
      for (Thing t : things) if (found(t) && hits(c, t)) of.add(t.n);
      hit.add(of);
      all.addAll(of);
    }
    for (int size = 0; size <= causes.size(); size++) {
      for (int set = 0; set < 1 << causes.size(); set++) {
        if (Integer.bitCount(set) != size) continue;
        Set<Integer> sum = new HashSet<>();
        for (int c = 0; c < causes.size(); c++) if ((set & 1 << c) != 0) sum.addAll(hit.get(c));
        if (sum.equals(all)) return set;
      }
    }
    return 0;
  }

  // reports, hands, weeks

  int report(int columns) {
    if (!in(columns, 0, 7)) return BAD;
    TreeMap<Integer, List<Thing>> rows = new TreeMap<>();
    for (Thing t : things) {
      int key = (columns % 2) * t.body * 1000 + (columns / 2 % 2) * t.topic * 50 + columns / 4 * t.kind;
      rows.computeIfAbsent(key, k -> new ArrayList<>()).add(t);
    }
    lines = new ArrayList<>();
    hidden = new HashSet<>();
    for (List<Thing> row : rows.values()) {
      Thing one = row.get(0);
      boolean ofOne = row.stream().allMatch(t -> t.person == one.person);
      if (row.size() < figure(-1, today, "few", 1, 1) || ofOne && lets.get(one.person) == 0) hidden.add(lines.size());
      lines.add(new Line(row.size(), columns % 2 * one.body, columns / 2 % 2 * one.topic, columns / 4 * one.kind));
    }
    if (hidden.size() == 1 && lines.size() > 1) {
      int best = -1;
      for (int i = 0; i < lines.size(); i++) {
        if (!hidden.contains(i) && (best < 0 || lines.get(i).matters < lines.get(best).matters)) best = i;
      }
      hidden.add(best);
    }
    return lines.size();
  }

  int row(int i, int what) {
    if (!in(i, 0, lines.size() - 1) || !in(what, 0, 3)) return NONE;
    if (hidden.contains(i)) return STATE;
    Line l = lines.get(i);
    return new int[] {l.matters, l.body, l.topic, l.kind}[what];
  }

  int grade(int hand, int matter, int g) {
    if (!in(hand, 0, 5) || thing(matter) == null) return NONE;
    if (!in(g, 0, 9)) return BAD;
    thing(matter).grades.put(hand, g);
    return count(8);
  }

  long habit(int hand, int part) {
    if (!in(hand, 0, 5) || !in(part, 0, 1)) return Long.MIN_VALUE;
    BigInteger above = BigInteger.ZERO;
    BigInteger below = BigInteger.ONE;
    int n = 0;
    for (Thing t : things) {
      if (!t.grades.containsKey(hand) || t.grades.size() < 2) continue;
      int others = t.grades.size() - 1;
      int sum = t.grades.values().stream().mapToInt(g -> g).sum() - t.grades.get(hand);
      // a/b + (g*others - sum)/others
      BigInteger top = BigInteger.valueOf((long) t.grades.get(hand) * others - sum);
      above = above.multiply(BigInteger.valueOf(others)).add(top.multiply(below));
      below = below.multiply(BigInteger.valueOf(others));
      n++;
    }
    if (n == 0) return Long.MIN_VALUE;
    below = below.multiply(BigInteger.valueOf(n));
    BigInteger common = above.gcd(below);
    return (part == 0 ? above : below).divide(common).longValueExact();
  }

  int agreed(int a, int b) {
    if (!in(a, 0, 5) || !in(b, 0, 5)) return NONE;
    if (a == b) return BAD;
    return (int) things.stream().filter(t -> t.grades.containsKey(a) && t.grades.containsKey(b)
        && Math.abs(t.grades.get(a) - t.grades.get(b)) < 2).count();
  }

  int plan(int matter, int work, int day) {
    if (thing(matter) == null) return NONE;
    if (!in(work, 1, 9) || !in(day, 0, 9999)) return BAD;
    if (jobs.stream().anyMatch(j -> j.matter == matter)) return STATE;
    if (jobs.size() == 7) return FULL;
    jobs.add(new Job(matter, work, day));
    return jobs.size();
  }

  int planless() {
    int had = jobs.size();
    jobs.clear();
    return had;
  }

  private int[] missedAndOver(List<Integer> order) {
    int at = today;
    int[] sums = new int[2];
    for (int place : order) {
      Job j = jobs.get(place);
      at = nth(at, j.work);
      if (at > j.day) {
        sums[0]++;
        sums[1] += at - j.day;
      }
    }
    return sums;
  }

  private void orders(List<Integer> so, List<List<Integer>> all) {
    if (so.size() == jobs.size()) all.add(new ArrayList<>(so));
    for (int place = 0; place < jobs.size(); place++) {
      if (so.contains(place)) continue;
      so.add(place);
      orders(so, all);
      so.remove(so.size() - 1);
    }
  }

  int week(int what) {
    if (what != 0 && what != 1 && !in(what, 10, 9 + jobs.size())) return NONE;
    List<List<Integer>> all = new ArrayList<>();
    orders(new ArrayList<>(), all);
    List<Integer> best = null;
    int[] least = null;
    for (List<Integer> order : all) {
      int[] sums = missedAndOver(order);
      if (least == null || sums[0] < least[0] || sums[0] == least[0] && sums[1] < least[1]) {
        least = sums;
        best = order;
      }
    }
    return what < 2 ? least[what] : jobs.get(best.get(what - 10)).matter;
  }

  int judge(int tape) {
    if (!in(tape, 0, 5)) return NONE;
    if (tapes[tape] == null) return NOTHING;
    if (!(tapes[tape] instanceof byte[] row)) return CAST;
    if (row.length < jobs.size()) return PLACE;
    List<Integer> order = new ArrayList<>();
    for (int i = 0; i < jobs.size(); i++) {
      if (!in(row[i], 0, jobs.size() - 1) || order.contains((int) row[i])) return BAD;
      order.add((int) row[i]);
    }
    return missedAndOver(order)[0];
  }

  // acts, tapes

  private static class Kind0 {
    int n, t, b;
    List<Integer> ran;

    int waits(int x) { ran.add(10); return x + n; }
    int binds(int x) { ran.add(11); return waits(x) * 2; }
    int shows(int x) { ran.add(12); return binds(x) ^ t; }
  }

  private static class Kind1 extends Kind0 {
    @Override int binds(int x) { ran.add(20); return -super.binds(x); }
  }

  private static class Kind2 extends Kind0 {
    @Override int waits(int x) { ran.add(30); return super.waits(x) + b; }
  }

  private static class Kind3 extends Kind2 {
    @Override int binds(int x) { ran.add(40); return super.binds(x) + waits(x + 1); }
    @Override int shows(int x) { ran.add(41); return super.shows(x) - 5; }
  }

  private static class Kind4 extends Kind2 {
    @Override int shows(int x) { ran.add(50); return waits(x) * 3; }
  }

  private static class Kind5 extends Kind0 {
    @Override int waits(int x) { ran.add(60); return super.waits(x - 2); }
  }

  private static class Kind6 extends Kind3 {
    @Override int waits(int x) { ran.add(70); return super.waits(x) ^ 9; }
    @Override int binds(int x) { ran.add(71); return super.binds(x) - 1; }
  }

  private static Kind0 ofKind(int kind) {
    switch (kind) {
      case 1: return new Kind1();
      case 2: return new Kind2();
      case 3: return new Kind3();
      case 4: return new Kind4();
      case 5: return new Kind5();
      case 6: return new Kind6();
      default: return new Kind0();
    }
  }

  int act(int matter, int act, int x) {
    trace = new ArrayList<>();
    Thing t = thing(matter);
    if (t == null || !in(act, 0, 2)) return 0;
    Kind0 k = ofKind(t.kind);
    k.n = t.n;
    k.t = t.topic;
    k.b = t.body;
    k.ran = trace;
    return act == 0 ? k.waits(x) : act == 1 ? k.binds(x) : k.shows(x);
  }

  int trace(int i) {
    return in(i, 0, Math.min(20, trace.size()) - 1) ? trace.get(i) : NONE;
  }

  int taken(int matter, int k) {
    if (!in(k, 0, 6)) return BAD;
    if (thing(matter) == null) return NOTHING;
    int kind = thing(matter).kind;
    return ofKind(k).getClass().isInstance(ofKind(kind)) ? kind : CAST;
  }

  int count(int what) {
    if (!in(what, 0, 10)) return BAD;
    int read = things.stream().mapToInt(t -> t.grades.size()).sum();
    return new int[] {today, feasts.size(), lets.size(), things.size(), papers.size(), laws.size(), text.length(),
        causes.size(), read, jobs.size(), trace.size()}[what];
  }

  int tape(int tape, int sort, int n) {
    if (!in(tape, 0, 5)) return NONE;
    if (!in(sort, -1, 3) || sort >= 0 && n > 80) return BAD;
    if (sort >= 0 && n < 0) return SIZE;
    switch (sort) {
      case -1: tapes[tape] = null; break;
      case 0: tapes[tape] = new byte[n]; break;
      case 1: tapes[tape] = new short[n]; break;
      case 2: tapes[tape] = new int[n]; break;
      default: tapes[tape] = new long[n]; break;
    }
    return 1;
  }

  int item(int tape, int i, long v) {
    if (!in(tape, 0, 5)) return NONE;
    Object row = tapes[tape];
    if (row == null) return NOTHING;
    if (!in(i, 0, java.lang.reflect.Array.getLength(row) - 1)) return PLACE;
    if (row instanceof byte[] r) r[i] = (byte) v;
    if (row instanceof short[] r) r[i] = (short) v;
    if (row instanceof int[] r) r[i] = (int) v;
    if (row instanceof long[] r) r[i] = v;
    return 1;
  }

  long read(int tape, int i) {
    if (!in(tape, 0, 5) || tapes[tape] == null) return Long.MIN_VALUE;
    if (!in(i, 0, java.lang.reflect.Array.getLength(tapes[tape]) - 1)) return Long.MIN_VALUE;
    return java.lang.reflect.Array.getLong(tapes[tape], i);
  }

  int shift(int tape, int i, int other, int j, int n) {
    if (!in(tape, 0, 5) || !in(other, 0, 5)) return NONE;
    if (tapes[tape] == null || tapes[other] == null) return NOTHING;
    if (tapes[tape].getClass() != tapes[other].getClass()) return CAST;
    try {
      System.arraycopy(tapes[tape], i, tapes[other], j, n);
    } catch (IndexOutOfBoundsException e) {
      return PLACE;
    }
    return n;
  }
}
