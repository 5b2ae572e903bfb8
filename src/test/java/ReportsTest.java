/** Promises 33 to 41: reports, hands and weeks. */
public final class ReportsTest {
  private static final Expect E = new Expect("ReportsTest");
  private static final long NO = Long.MIN_VALUE;

  public static void main(String[] args) {
    rows();
    hidden();
    lone();
    snapshot();
    grades();
    habits();
    agreed();
    plans();
    bestOrder();
    ties();
    judged();
    E.close();
  }

  private static void rowIs(WrongsDesk d, int i, int... due) {
    for (int what = 0; what < 4; what++) {
      E.due("row(" + i + ", " + what + ")", d.row(i, what), due.length == 1 ? due[0] : due[what]);
    }
  }

  private static void rows() {
    WrongsDesk d = Expect.desk(5);
    int[][] told = {{5, 9}, {0, 3}, {5, 2}, {0, 3}, {1, 3}};
    for (int[] t : told) {
      d.matter(0, t[0], t[1], 0, 0);
    }
    d.ask(3);
    E.due("report: bad", d.report(-1), -2);
    E.due("report: bad", d.report(8), -2);
    E.due("no row yet", d.row(0, 0), -1);
    E.due("report(0)", d.report(0), 1);
    rowIs(d, 0, 5, 0, 0, 0);
    E.due("report(1)", d.report(1), 3);
    rowIs(d, 0, 2, 0, 0, 0);
    rowIs(d, 1, 1, 1, 0, 0);
    rowIs(d, 2, 2, 5, 0, 0);
    E.due("report(2)", d.report(2), 3);
    rowIs(d, 0, 1, 0, 2, 0);
    rowIs(d, 1, 3, 0, 3, 0);
    rowIs(d, 2, 1, 0, 9, 0);
    E.due("report(3)", d.report(3), 4);
    rowIs(d, 0, 2, 0, 3, 0);
    rowIs(d, 2, 1, 5, 2, 0);
    rowIs(d, 3, 1, 5, 9, 0);
    E.due("report(4)", d.report(4), 2);
    rowIs(d, 0, 4, 0, 0, 0);
    rowIs(d, 1, 1, 0, 0, 2);
    E.due("report(5)", d.report(5), 4);
    rowIs(d, 1, 1, 0, 0, 2);
    E.due("report(6)", d.report(6), 4);
    rowIs(d, 1, 2, 0, 3, 0);
    rowIs(d, 2, 1, 0, 3, 2);
    E.due("report(7)", d.report(7), 5);
    rowIs(d, 0, 1, 0, 3, 0);
    rowIs(d, 1, 1, 0, 3, 2);
    rowIs(d, 4, 1, 5, 9, 0);
    E.due("row: none", d.row(5, 0), -1);
    E.due("row: none", d.row(-1, 0), -1);
    E.due("row: what", d.row(0, 4), -1);
    E.due("row: what", d.row(0, -1), -1);
    E.due("a refused report changes nothing", d.report(8), -2);
    rowIs(d, 4, 1, 5, 9, 0);
  }

  private static void hidden() {
    WrongsDesk d = Expect.desk(5);
    d.person(0);
    int[][] told = {{0, 0}, {1, 1}, {1, 1}, {1, 2}, {2, 2}, {0, 3}, {0, 3}, {1, 4}};
    for (int[] t : told) {
      d.matter(t[0], 0, t[1], 0, 0);
    }
    E.due("report(2)", d.report(2), 5);
    rowIs(d, 0, 1, 0, 0, 0);
    rowIs(d, 1, -3);
    rowIs(d, 2, 2, 0, 2, 0);
    rowIs(d, 3, 2, 0, 3, 0);
    rowIs(d, 4, -3);
    E.due("row: none ahead of hidden", d.row(1, 4), -1);
    Expect.law(d, -1, 6, "few 2");
    d.report(2);
    rowIs(d, 0, 1, 0, 0, 0);
    d.pass(1);
    d.report(2);
    rowIs(d, 0, -3);
    rowIs(d, 3, 2, 0, 3, 0);
    Expect.law(d, -1, 6, "few 0");
    d.report(2);
    rowIs(d, 0, 1, 0, 0, 0);
    rowIs(d, 4, -3);
  }

  private static void lone() {
    WrongsDesk d = Expect.desk(5);
    int[][] told = {{0, 0}, {0, 0}, {0, 1}, {1, 2}, {0, 3}};
    for (int[] t : told) {
      d.matter(t[0], 0, t[1], 0, 0);
    }
    d.report(2);
    rowIs(d, 0, 2, 0, 0, 0);
    rowIs(d, 1, -3);
    rowIs(d, 2, -3);
    rowIs(d, 3, 1, 0, 3, 0);
    WrongsDesk one = Expect.desk(5);
    one.matter(1, 0, 0, 0, 0);
    E.due("report(0)", one.report(0), 1);
    rowIs(one, 0, -3);
    one.matter(0, 0, 0, 0, 0);
    E.due("report(0)", one.report(0), 1);
    rowIs(one, 0, 2, 0, 0, 0);
  }

  private static void snapshot() {
    WrongsDesk d = Expect.desk(5);
    d.matter(0, 0, 1, 0, 0);
    d.report(6);
    d.matter(0, 0, 1, 0, 0);
    d.ask(0);
    d.let(0, 0);
    rowIs(d, 0, 1, 0, 1, 0);
    E.due("as it was then", d.row(1, 0), -1);
    d.report(6);
    rowIs(d, 0, -3);
    d.let(0, 1);
    rowIs(d, 0, -3);
  }

  private static void grades() {
    WrongsDesk d = Expect.desk(5);
    d.matter(0, 0, 0, 0, 0);
    d.matter(0, 0, 0, 0, 0);
    E.due("grade: hand", d.grade(6, 0, 10), -1);
    E.due("grade: hand", d.grade(-1, 0, 0), -1);
    E.due("grade: matter", d.grade(0, 2, 10), -1);
    E.due("grade: bad", d.grade(0, 0, 10), -2);
    E.due("grade: bad", d.grade(0, 0, -1), -2);
    E.due("grade", d.grade(0, 0, 0), 1);
    E.due("grade again", d.grade(0, 0, 9), 1);
    E.due("grade", d.grade(0, 1, 9), 2);
    E.due("grade", d.grade(5, 0, 9), 3);
    E.due("readings", d.count(8), 3);
  }

  private static void habits() {
    WrongsDesk d = Expect.desk(5);
    for (int n = 0; n < 4; n++) {
      d.matter(0, 0, 0, 0, 0);
    }
    d.grade(0, 0, 7);
    E.due("habit: alone", d.habit(0, 0), NO);
    E.due("habit: hand", d.habit(6, 0), NO);
    E.due("habit: hand", d.habit(-1, 0), NO);
    d.grade(1, 0, 7);
    E.due("habit: hand", d.habit(0, 2), NO);
    E.due("habit: part", d.habit(0, -1), NO);
    E.due("habit 0 above", d.habit(0, 0), 0);
    E.due("habit 0 below", d.habit(0, 1), 1);
    d.grade(2, 0, 5);
    d.grade(3, 0, 5);
    E.due("7 less 17/3, above", d.habit(0, 0), 4);
    E.due("7 less 17/3, below", d.habit(0, 1), 3);
    d.grade(0, 1, 1);
    E.due("one read alone does not count", d.habit(0, 0), 4);
    d.grade(5, 1, 9);
    E.due("4/3 and -8, above", d.habit(0, 0), -10);
    E.due("4/3 and -8, below", d.habit(0, 1), 3);
    d.grade(0, 1, 8);
    E.due("the latest counts, above", d.habit(0, 0), 1);
    E.due("the latest counts, below", d.habit(0, 1), 6);
    for (int h = 0; h < 6; h++) {
      d.grade(h, 2, h == 4 ? 9 : 0);
      d.grade(h, 3, h == 4 ? 0 : h);
    }
    E.due("9 and -11/5, above", d.habit(4, 0), 17);
    E.due("9 and -11/5, below", d.habit(4, 1), 5);
    E.due("no such matter", new WrongsDesk().habit(0, 0), NO);
  }

  private static void agreed() {
    WrongsDesk d = Expect.desk(5);
    int[][] told = {{3, 3}, {3, 4}, {4, 3}, {3, 5}, {5, 3}, {0, -1}, {-1, 9}};
    for (int n = 0; n < told.length; n++) {
      d.matter(0, 0, 0, 0, 0);
      d.grade(2, n, told[n][0]);
      d.grade(4, n, told[n][1]);
    }
    E.due("agreed", d.agreed(2, 4), 3);
    E.due("agreed", d.agreed(4, 2), 3);
    E.due("agreed with none", d.agreed(2, 3), 0);
    E.due("agreed: one", d.agreed(2, 2), -2);
    E.due("agreed: none", d.agreed(6, 6), -1);
    E.due("agreed: none", d.agreed(0, -1), -1);
  }

  private static void plans() {
    WrongsDesk d = Expect.desk(0);
    for (int n = 0; n < 9; n++) {
      d.matter(0, 0, 0, 0, 0);
    }
    E.due("plan: none", d.plan(9, 0, 0), -1);
    E.due("plan: work", d.plan(0, 0, 0), -2);
    E.due("plan: work", d.plan(0, 10, 0), -2);
    E.due("plan: day", d.plan(0, 1, 10000), -2);
    E.due("plan: day", d.plan(0, 1, -1), -2);
    for (int n = 0; n < 7; n++) {
      E.due("plan", d.plan(n, 9, 9999), n + 1);
    }
    E.due("plan: bad ahead of state", d.plan(3, 0, 0), -2);
    E.due("plan: it is in it, ahead of full", d.plan(3, 1, 1), -3);
    E.due("plan: full", d.plan(7, 1, 1), -4);
    E.due("in the week", d.count(9), 7);
    E.due("missed", d.week(0), 0);
    E.due("planless", d.planless(), 7);
    E.due("in the week", d.count(9), 0);
    E.due("planless", d.planless(), 0);
    E.due("plan", d.plan(3, 1, 1), 1);
  }

  private static void bestOrder() {
    WrongsDesk d = Expect.desk(3);
    E.due("empty: missed", d.week(0), 0);
    E.due("empty: over", d.week(1), 0);
    E.due("empty: first", d.week(10), -1);
    for (int n = 0; n < 3; n++) {
      d.matter(0, 0, 0, 0, 0);
    }
    // done on 4 and 8, or 7 and 8
    d.plan(2, 2, 7);
    d.plan(1, 1, 4);
    E.due("missed", d.week(0), 1);
    E.due("over: 8 - 7, or 8 - 4", d.week(1), 1);
    E.due("first", d.week(10), 1);
    E.due("second", d.week(11), 2);
    E.due("third", d.week(12), -1);
    int[] others = {-1, 2, 9, 17, Integer.MIN_VALUE, Integer.MAX_VALUE};
    for (int what : others) {
      E.due("week: another what", d.week(what), -1);
    }
    d.feast(4);
    E.due("with a feast: missed", d.week(0), 2);
    E.due("with a feast: over 9 - 7 and 7 - 4, or 8 - 7 and 9 - 4", d.week(1), 5);
    E.due("with a feast: first", d.week(10), 1);
    // missed goes ahead of over
    d.planless();
    d.plan(0, 9, 0);
    d.plan(1, 1, 7);
    d.plan(2, 1, 8);
    E.due("missed", d.week(0), 1);
    E.due("first", d.week(10), 1);
    E.due("last", d.week(12), 0);
    d.pass(1);
    E.due("from today on", d.week(0), 1);
  }

  private static void ties() {
    WrongsDesk d = Expect.desk(0);
    for (int n = 0; n < 7; n++) {
      d.matter(0, 0, 0, 0, 0);
    }
    int[] places = {4, 2, 6, 0, 5, 1, 3};
    for (int m : places) {
      d.plan(m, 3, 9999);
    }
    for (int i = 0; i < 7; i++) {
      E.due("of several the first by places", d.week(10 + i), places[i]);
    }
    E.due("over", d.week(1), 0);
  }

  private static void judged() {
    WrongsDesk d = Expect.desk(3);
    for (int n = 0; n < 3; n++) {
      d.matter(0, 0, 0, 0, 0);
    }
    d.plan(2, 2, 7);
    d.plan(1, 1, 4);
    d.plan(0, 1, 9);
    E.due("judge: none", d.judge(6), -1);
    E.due("judge: none", d.judge(-1), -1);
    E.due("judge: nothing", d.judge(0), -11);
    for (int sort = 1; sort < 4; sort++) {
      d.tape(0, sort, 0);
      E.due("judge: another sort", d.judge(0), -12);
    }
    d.tape(0, 0, 2);
    E.due("judge: fewer", d.judge(0), -13);
    d.tape(0, 0, 4);
    d.item(0, 3, 77);
    E.due("judge: not each once", d.judge(0), -2);
    d.item(0, 1, 1);
    d.item(0, 2, 3);
    E.due("judge: no such place", d.judge(0), -2);
    d.item(0, 2, -1);
    E.due("judge: no such place", d.judge(0), -2);
    d.item(0, 2, 2);
    E.due("judge 0 1 2: 7, 8, 9", d.judge(0), 1);
    d.item(0, 0, 2);
    d.item(0, 2, 0);
    E.due("judge 2 1 0: 4, 7, 9", d.judge(0), 2);
    d.item(0, 0, 1);
    d.item(0, 1, 2);
    E.due("judge 1 2 0: 4, 7, 9", d.judge(0), 1);
    d.item(0, 1, 0);
    d.item(0, 2, 2);
    E.due("judge 1 0 2: 4, 8, 9", d.judge(0), 1);
    d.feast(4);
    E.due("judge 1 0 2: 7, 9, 10", d.judge(0), 3);
    d.planless();
    E.due("judge an empty week", d.judge(0), 0);
  }
}
