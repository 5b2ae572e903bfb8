/** Promises 7 to 17: matters, their kinds, answers waited for and promises watched. */
public final class MattersTest {
  private static final Expect E = new Expect("MattersTest");

  public static void main(String[] args) {
    made();
    outOrAsked();
    found();
    settledAndJoined();
    reach();
    ends();
    promises();
    E.close();
  }

  private static void made() {
    WrongsDesk d = Expect.desk(8);
    E.due("matter: no person", d.matter(2, 0, 10, 0, 0), -1);
    E.due("matter: no person", d.matter(-1, 0, 0, 0, 0), -1);
    E.due("matter: no body", d.matter(0, 6, 10, 0, 0), -1);
    E.due("matter: the office is no body", d.matter(0, -1, 0, 0, 0), -1);
    E.due("matter: topic", d.matter(0, 0, 10, 0, 0), -2);
    E.due("matter: topic", d.matter(0, 0, -1, 0, 0), -2);
    E.due("matter: day behind today", d.matter(0, 0, 0, 9, 0), -2);
    E.due("matter: day", d.matter(0, 0, 0, -1, 0), -2);
    E.due("matter: loss", d.matter(0, 0, 0, 0, 10000), -2);
    E.due("matter: loss", d.matter(0, 0, 0, 0, -1), -2);
    E.due("matter", d.matter(1, 5, 9, 8, 9999), 0);
    int[] due = {0, 1, 5, 9, 8, 9999, -1, -1, -1, -1};
    for (int what = 0; what < 10; what++) {
      E.due("of(0, " + what + ")", d.of(0, what), due[what]);
    }
    E.due("of: what", d.of(0, 10), -5);
    E.due("of: what", d.of(0, -1), -5);
    E.due("of: matter", d.of(1, 0), -5);
    E.due("of: matter", d.of(-1, 0), -5);
    for (int n = 1; n < 40; n++) {
      E.due("matter", d.matter(0, 0, 0, 0, 0), n);
    }
    E.due("matter: bad ahead of full", d.matter(0, 0, 0, 9, 0), -2);
    E.due("matter: full", d.matter(0, 0, 0, 0, 0), -4);
    E.due("matters", d.count(3), 40);
    E.due("of the last", d.of(39, 1), 0);
    E.due("of: beyond the last", d.of(40, 1), -5);
  }

  private static void outOrAsked() {
    WrongsDesk d = Expect.desk(10);
    Expect.law(d, -1, 0, "reach t1;answer 2");
    d.matter(0, 0, 1, 0, 0);
    d.matter(0, 0, 2, 0, 0);
    E.due("out: none", d.out(2), -1);
    E.due("ask: none", d.ask(-1), -1);
    E.due("out: in reach", d.out(0), -3);
    E.due("ask: not in reach", d.ask(1), -3);
    E.due("out", d.out(1), 1);
    E.due("its kind", d.of(1, 0), 1);
    E.due("out again", d.out(1), -3);
    E.due("asked, though out", d.ask(1), -3);
    E.due("ask", d.ask(0), 14);
    E.due("its kind", d.of(0, 0), 2);
    E.due("when", d.of(0, 6), 10);
    E.due("ask again", d.ask(0), -3);
    E.due("out, though asked", d.out(0), -3);
  }

  private static void found() {
    WrongsDesk d = Expect.desk(10);
    Expect.law(d, 0, 0, "owe 1 0;owe 2 0;owe 3 0;owe 4 9");
    d.matter(0, 0, 0, 0, 0);
    d.matter(0, 1, 0, 0, 0);
    E.due("find: none", d.find(2, -1), -1);
    E.due("find: bad", d.find(0, -1), -2);
    E.due("find: bad", d.find(0, 100000), -2);
    E.due("find: not asked", d.find(0, 0), -3);
    d.ask(0);
    d.ask(1);
    d.file(0, 1, 0, 0);
    d.file(0, 2, 1, 0);
    E.due("find: nothing owed", d.find(1, 0), -3);
    E.due("find: one in time, one late, one lacks, one not due", d.find(0, 99999), 2);
    E.due("its kind", d.of(0, 0), 3);
    E.due("its award", d.of(0, 7), 99999);
    E.due("when asked", d.of(0, 6), 10);
    E.due("find again", d.find(0, 1), -3);
    E.due("its award stays", d.of(0, 7), 99999);
    d.papers(1, 0, 0, 1);
    WrongsDesk open = Expect.desk(10);
    Expect.law(open, 0, 0, "owe 1 0");
    open.matter(0, 0, 0, 0, 0);
    open.ask(0);
    open.papers(0, 0, 0, 1);
    E.due("find: open is not so", open.find(0, 0), -3);
    open.patch(0);
    E.due("find: lacks", open.find(0, 0), 1);
  }

  private static void settledAndJoined() {
    WrongsDesk d = Expect.desk(10);
    Expect.law(d, -1, 0, "reach !t9");
    for (int n = 0; n < 5; n++) {
      d.matter(0, 0, n == 4 ? 9 : 0, 0, 0);
    }
    E.due("settle: none", d.settle(5), -1);
    E.due("settle: not asked", d.settle(0), -3);
    d.ask(0);
    E.due("settle", d.settle(0), 1);
    E.due("its kind", d.of(0, 0), 4);
    E.due("settle again", d.settle(0), -3);
    E.due("join: none", d.join(5, 0), -1);
    E.due("join: none", d.join(1, 5), -1);
    E.due("join: none ahead of bad", d.join(7, 7), -1);
    E.due("join: itself", d.join(1, 1), -2);
    E.due("join: itself, ahead of state", d.join(0, 0), -2);
    E.due("join: a settled one to another", d.join(0, 1), -3);
    E.due("join to a settled one", d.join(1, 0), 1);
    E.due("its kind", d.of(1, 0), 5);
    E.due("to which", d.of(1, 8), 0);
    E.due("join to a joined one", d.join(2, 1), -3);
    E.due("join again", d.join(1, 2), -3);
    E.due("join to a matter", d.join(2, 3), 1);
    d.out(4);
    E.due("join to one that is out", d.join(3, 4), -3);
    E.due("join of one that is out", d.join(4, 3), -3);
    E.due("join of one that others are joined to", d.join(3, 0), 1);
  }

  private static void reach() {
    WrongsDesk d = Expect.desk(20);
    d.matter(0, 0, 1, 5, 7);
    E.due("reach: none", d.reach(1, 10), -1);
    E.due("reach: ahead", d.reach(0, 4), -2);
    E.due("reach: above", d.reach(0, 10000), -2);
    E.due("reach without a law", d.reach(0, 9999), 1);
    Expect.law(d, -1, 10, "limit 6");
    E.due("reach ahead of the law", d.reach(0, 9), 1);
    E.due("reach at the limit", d.reach(0, 11), 1);
    E.due("reach beyond the limit", d.reach(0, 12), 0);
    Expect.law(d, -1, 12, "reach w2>3&d>8");
    E.due("reach: no act", d.reach(0, 21), 0);
    d.file(0, 2, 6, 4);
    E.due("reach: days", d.reach(0, 13), 0);
    E.due("reach: entered later", d.reach(0, 19), 0);
    E.due("reach: known then", d.reach(0, 20), 1);
  }

  private static void ends() {
    WrongsDesk d = Expect.desk(3);
    d.matter(0, 0, 0, 0, 0);
    E.due("end: not asked", d.end(0, 0), -3);
    E.due("end: what ahead of state", d.end(0, 2), -1);
    E.due("end: none", d.end(1, 0), -1);
    E.due("ask without a law: thirty", d.ask(0), 45);
    E.due("end: what", d.end(0, -1), -1);
    E.due("end", d.end(0, 0), 45);
    Expect.law(d, -1, 3, "answer 2");
    E.due("end as the law is told now", d.end(0, 0), 7);
    d.feast(7);
    E.due("end as the feasts are told now", d.end(0, 0), 8);
    Expect.law(d, -1, 4, "answer 1");
    E.due("a law of a later day does not count", d.end(0, 0), 8);
    d.pass(5);
    E.due("not overdue on its end", d.end(0, 1), 0);
    d.pass(1);
    E.due("overdue behind it", d.end(0, 1), 1);
    Expect.law(d, -1, 3, "answer 0");
    E.due("end: none given", d.end(0, 0), 3);
    d.settle(0);
    E.due("end: settled", d.end(0, 0), -3);
    E.due("end: settled", d.end(0, 1), -3);
  }

  private static void promises() {
    WrongsDesk d = Expect.desk(10);
    Expect.law(d, 0, 0, "owe 1 0");
    d.matter(0, 0, 0, 0, 0);
    d.matter(0, 0, 0, 0, 0);
    E.due("watch: none", d.watch(2, 0, 0), -1);
    E.due("watch: sort", d.watch(0, 0, 0), -2);
    E.due("watch: sort", d.watch(0, 10, 0), -2);
    E.due("watch: day", d.watch(0, 1, -1), -2);
    E.due("watch: day", d.watch(0, 1, 10000), -2);
    E.due("watch: not found", d.watch(0, 1, 12), -3);
    d.ask(0);
    E.due("watch: asked", d.watch(0, 1, 12), -3);
    d.find(0, 3);
    d.file(0, 2, 10, 0);
    E.due("kept: none", d.kept(2), -1);
    E.due("kept: not watched", d.kept(0), -3);
    E.due("watch", d.watch(0, 2, 12), 1);
    E.due("its kind", d.of(0, 0), 6);
    E.due("its award", d.of(0, 7), 3);
    E.due("watch again", d.watch(0, 2, 12), -3);
    E.due("what was entered ahead does not count", d.kept(0), 0);
    d.pass(2);
    E.due("on the day", d.kept(0), 0);
    d.pass(1);
    E.due("broken", d.kept(0), 3);
    d.file(0, 3, 13, 0);
    d.file(1, 2, 12, 0);
    E.due("another sort, another matter", d.kept(0), 3);
    d.file(0, 2, 13, 0);
    E.due("late", d.kept(0), 2);
    d.file(0, 2, 12, 0);
    E.due("kept, though told late", d.kept(0), 1);
  }
}
