/** Promises 1 to 6: a new object, days and people. */
public final class DaysTest {
  private static final Expect E = new Expect("DaysTest");

  public static void main(String[] args) {
    fresh();
    passing();
    feasts();
    workingDays();
    people();
    E.close();
  }

  private static void fresh() {
    WrongsDesk d = new WrongsDesk();
    for (int what = 0; what <= 10; what++) {
      E.due("new: count(" + what + ")", d.count(what), 0);
    }
    E.due("new: of", d.of(0, 0), -5);
    E.due("new: row", d.row(0, 0), -1);
    E.due("new: trace", d.trace(0), -1);
    E.due("new: read", d.read(0, 0), Long.MIN_VALUE);
    E.due("new: lawful", d.lawful(-1, 0, 0), -1);
    E.due("new: fewest", d.fewest(), 0);
    E.due("new: unlike(0)", d.unlike(0), 0);
    E.due("new: unlike(1)", d.unlike(1), -1);
    E.due("new: report(7)", d.report(7), 0);
    E.due("new: planless", d.planless(), 0);
  }

  private static void passing() {
    WrongsDesk d = new WrongsDesk();
    E.due("pass(0)", d.pass(0), -2);
    E.due("pass(-1)", d.pass(-1), -2);
    E.due("pass(401)", d.pass(401), -2);
    E.due("pass(MAX)", d.pass(Integer.MAX_VALUE), -2);
    E.due("pass(1)", d.pass(1), 1);
    for (int n = 1; n < 25; n++) {
      E.due("pass(400)", d.pass(400), 1 + 400 * n);
    }
    E.due("pass(399) beyond", d.pass(399), -2);
    E.due("today stays", d.count(0), 9601);
    E.due("pass(398)", d.pass(398), 9999);
    E.due("pass(1) beyond", d.pass(1), -2);
  }

  private static void feasts() {
    WrongsDesk d = new WrongsDesk();
    E.due("feast(-1)", d.feast(-1), -2);
    E.due("feast(10000)", d.feast(10000), -2);
    E.due("feast(4)", d.feast(4), 1);
    E.due("feast(4) again", d.feast(4), -3);
    E.due("feast(5)", d.feast(5), -3);
    E.due("feast(6)", d.feast(6), -3);
    E.due("feast(9999)", d.feast(9999), 2);
    for (int n = 3; n <= 20; n++) {
      E.due("feast", d.feast(7 * n), n);
    }
    E.due("feast: state ahead of full", d.feast(4), -3);
    E.due("feast: full", d.feast(0), -4);
    E.due("feasts", d.count(1), 20);
  }

  private static void workingDays() {
    WrongsDesk d = new WrongsDesk();
    E.due("working(-1, 0)", d.working(-1, 0), -2);
    E.due("working(10000, 0)", d.working(10000, 0), -2);
    E.due("working(0, -1)", d.working(0, -1), -2);
    E.due("working(0, 401)", d.working(0, 401), -2);
    E.due("working(5, 0): the day itself, though off", d.working(5, 0), 5);
    E.due("working(5, 1)", d.working(5, 1), 7);
    E.due("working(6, 1)", d.working(6, 1), 7);
    E.due("working(4, 1)", d.working(4, 1), 7);
    E.due("working(0, 4)", d.working(0, 4), 4);
    E.due("working(0, 5)", d.working(0, 5), 7);
    E.due("working(0, 400)", d.working(0, 400), 560);
    d.feast(7);
    d.feast(8);
    d.feast(15);
    E.due("feasts in a row", d.working(4, 1), 9);
    E.due("a feast reached by passing others", d.working(4, 4), 14);
    E.due("a feast reached by passing others, next", d.working(4, 5), 16);
    E.due("from a feast on", d.working(7, 1), 9);
    E.due("a feast itself, n 0", d.working(7, 0), 7);
    E.due("a feast behind does not count", d.working(16, 1), 17);
    // 9999 modulo 7 is 3
    E.due("beyond 9999", d.working(9999, 1), 10000);
    E.due("beyond 9999, weekend", d.working(9999, 2), 10003);
    E.due("beyond 9999, far", d.working(9999, 400), 9999 + 560);
    d.feast(9999);
    E.due("last feast", d.working(9998, 1), 10000);
  }

  private static void people() {
    WrongsDesk d = new WrongsDesk();
    E.due("person(2)", d.person(2), -2);
    E.due("person(-1)", d.person(-1), -2);
    E.due("let: none", d.let(0, 1), -1);
    for (int n = 0; n < 20; n++) {
      E.due("person", d.person(n % 2), n);
    }
    E.due("person: bad ahead of full", d.person(2), -2);
    E.due("person: full", d.person(1), -4);
    E.due("persons", d.count(2), 20);
    E.due("let(20)", d.let(20, 2), -1);
    E.due("let(-1)", d.let(-1, 0), -1);
    E.due("let: bad", d.let(0, 2), -2);
    E.due("let: bad", d.let(0, -1), -2);
    E.due("let(0, 1)", d.let(0, 1), 0);
    E.due("let(0, 1) again", d.let(0, 1), 1);
    E.due("let(0, 0)", d.let(0, 0), 1);
    E.due("let(1, 0)", d.let(1, 0), 1);
  }
}
