/** Every call where there is nothing: on a new object, on rows of none, on files, weeks and texts that are empty. */
public final class EmptyTest {
  private static final Expect E = new Expect("EmptyTest");
  private static final long NO = Long.MIN_VALUE;

  public static void main(String[] args) {
    numbers();
    noPerson();
    noMatter();
    nothingElse();
    noTape();
    rowsOfNone();
    emptyFile();
    emptyWeek();
    emptyText();
    E.close();
  }

  private static void numbers() {
    WrongsDesk d = new WrongsDesk();
    for (int what = 0; what <= 10; what++) {
      E.due("P1 count(" + what + ")", d.count(what), 0);
    }
    E.due("P1 no feast", d.working(0, 5), 7);
    E.due("P1 the first of its kind", d.feast(0), 1);
    E.due("P1 the first of its kind", d.person(0), 0);
    E.due("P1 the first of its kind", d.matter(0, 0, 0, 0, 0), 0);
    E.due("P1 the first of its kind", d.file(0, 1, 0, 0), 1);
    E.due("P1 the first of its kind", Expect.law(d, 0, 0, "cap 1"), 0);
    E.due("P1 the first of its kind", d.cause(0, 0, 0), 0);
    E.due("P1 the first of its kind", d.grade(0, 0, 0), 1);
    E.due("P1 the first of its kind", d.plan(0, 1, 0), 1);
    E.due("P1 today is 0", d.pass(1), 1);
  }

  private static void noPerson() {
    WrongsDesk d = new WrongsDesk();
    E.due("P6 let", d.let(0, 0), -1);
    E.due("P7 matter", d.matter(0, 0, 0, 0, 0), -1);
    E.due("P7 none came", d.count(3), 0);
  }

  private static void noMatter() {
    WrongsDesk d = Expect.desk(0);
    Expect.law(d, -1, 0, "few 1");
    for (int what = 0; what < 10; what++) {
      E.due("P8 of(0, " + what + ")", d.of(0, what), -5);
    }
    E.due("P9 out", d.out(0), -1);
    E.due("P10 ask", d.ask(0), -1);
    E.due("P11 find", d.find(0, 0), -1);
    E.due("P12 settle", d.settle(0), -1);
    E.due("P13 join", d.join(0, 1), -1);
    E.due("P14 watch", d.watch(0, 1, 0), -1);
    E.due("P15 reach", d.reach(0, 0), -1);
    E.due("P16 end", d.end(0, 0), -1);
    E.due("P17 kept", d.kept(0), -1);
    E.due("P18 file", d.file(0, 1, 0, 0), -1);
    E.due("P19 papers", d.papers(0, 0, 0, 1), -1);
    E.due("P20 patch", d.patch(0), -1);
    for (int what = 0; what < 4; what++) {
      E.due("P21 filed " + what, d.filed(0, 1, 0, what), -100);
    }
    E.due("P25 owes", d.owes(0, 0), -1);
    E.due("P26 owed", d.owed(0, 0, 0, 0), -5);
    E.due("P27 good", d.good(0, 0), -1);
    E.due("P28 alike", d.alike(0, 1), -1);
    E.due("P29 unlike twos", d.unlike(0), 0);
    E.due("P29 unlike, the lesser", d.unlike(1), -1);
    E.due("P29 unlike, the greater", d.unlike(2), -1);
    for (int columns = 0; columns < 8; columns++) {
      E.due("P33 report(" + columns + ")", d.report(columns), 0);
      E.due("P34 row", d.row(0, 0), -1);
    }
    E.due("P35 grade", d.grade(0, 0, 0), -1);
    E.due("P36 habit, above", d.habit(0, 0), NO);
    E.due("P36 habit, below", d.habit(0, 1), NO);
    E.due("P37 agreed", d.agreed(0, 1), 0);
    E.due("P38 plan", d.plan(0, 1, 0), -1);
    E.due("P42 act", d.act(0, 0, 7), 0);
    E.due("P44 taken", d.taken(0, 0), -11);
    d.cause(-1, 0, 0);
    E.due("P31 reaches, found ones", d.reaches(0, 0), 0);
    E.due("P31 reaches, others", d.reaches(0, 1), 0);
    E.due("P32 fewest", d.fewest(), 0);
  }

  private static void nothingElse() {
    WrongsDesk d = new WrongsDesk();
    E.due("P31 reaches without a cause", d.reaches(0, 0), -1);
    E.due("P32 fewest without a cause", d.fewest(), 0);
    E.due("P34 row without a report", d.row(0, 0), -1);
    E.due("P39 planless", d.planless(), 0);
    E.due("P43 trace without an act", d.trace(0), -1);
    int[] without = {-1, 0, 9999, 30, 0, 1, 9999, 0, 1};
    for (int body = -1; body < 6; body++) {
      for (int what = 0; what < 9; what++) {
        E.due("P24 without a law, of " + body + ", " + what, d.lawful(body, 9999, what), without[what]);
      }
    }
    WrongsDesk one = Expect.desk(40);
    one.matter(0, 0, 0, 0, 50);
    E.due("T3 without a law all is in reach", one.reach(0, 9999), 1);
    E.due("T3 without a law nothing is owed", one.owes(0, 9999), 0);
    E.due("T4 nothing owed, nothing to make good", one.good(0, 9999), 0);
    E.due("T5 without a law thirty working days", one.ask(0), 81);
    E.due("T4 nothing owed, nothing found", one.find(0, 0), -3);
    E.due("T6 without a law few is 1", one.report(0), 1);
    E.due("T6 so one is shown", one.row(0, 0), 1);
  }

  private static void noTape() {
    WrongsDesk d = Expect.desk(3);
    d.matter(0, 0, 0, 0, 0);
    for (int tape = 0; tape < 6; tape++) {
      E.due("P47 item", d.item(tape, 0, 1), -11);
      E.due("P48 read", d.read(tape, 0), NO);
      E.due("P49 shift", d.shift(tape, 0, (tape + 1) % 6, 0, 0), -11);
      E.due("P49 shift within", d.shift(tape, 0, tape, 0, 0), -11);
      E.due("P41 judge", d.judge(tape), -11);
      E.due("P19 papers", d.papers(0, tape, 0, 1), 0);
    }
    E.due("P19 torn", d.of(0, 9), 3);
    d.tape(2, 2, 3);
    d.tape(2, -1, 3);
    E.due("P46 nothing again", d.item(2, 0, 1), -11);
    E.due("P46 nothing again", d.read(2, 0), NO);
    E.due("P46 nothing again", d.shift(2, 0, 2, 0, 0), -11);
  }

  private static void rowsOfNone() {
    WrongsDesk d = Expect.desk(3);
    d.matter(0, 0, 0, 0, 0);
    for (int sort = 0; sort < 4; sort++) {
      E.due("P46 a row of none", d.tape(sort, sort, 0), 1);
      E.due("P47 item", d.item(sort, 0, 1), -13);
      E.due("P48 read", d.read(sort, 0), NO);
      E.due("P49 shift of none", d.shift(sort, 0, sort, 0, 0), 0);
      E.due("P49 shift of one", d.shift(sort, 0, sort, 0, 1), -13);
      E.due("P49 shift from beyond", d.shift(sort, 1, sort, 0, 0), -13);
      E.due("P49 shift to beyond", d.shift(sort, 0, sort, 1, 0), -13);
    }
    E.due("P41 judge, as the week is empty", d.judge(0), 0);
    E.due("P41 judge, another sort", d.judge(2), -12);
    d.plan(0, 1, 9);
    E.due("P41 judge, fewer than the week", d.judge(0), -13);
    E.due("P19 papers, another sort", d.papers(0, 0, 0, 1), -12);
    E.due("P19 which tears nothing", d.of(0, 9), -1);
    E.due("P19 papers", d.papers(0, 2, 0, 1), 0);
    E.due("P19 torn", d.of(0, 9), 3);
  }

  private static void emptyFile() {
    WrongsDesk d = Expect.desk(9);
    d.matter(0, 0, 0, 0, 0);
    d.matter(0, 0, 0, 0, 0);
    d.file(1, 1, 0, 5);
    for (int sort = 1; sort <= 9; sort++) {
      for (int what = 0; what < 3; what++) {
        E.due("P21 filed " + what, d.filed(0, sort, 9999, what), -100);
      }
      E.due("P21 how many", d.filed(0, sort, 9999, 3), 0);
    }
    E.due("P20 patch", d.patch(0), -3);
    Expect.law(d, -1, 0, "reach w1<99|w1>0|a1");
    E.due("T3 no word of an act that is not there", d.reach(0, 9), 0);
    E.due("T3 but of another matter's", d.reach(1, 9), 1);
    Expect.law(d, -1, 0, "reach !w1<99&!w1>0");
    E.due("T3 nor above nor below", d.reach(0, 9), 1);
  }

  private static void emptyWeek() {
    WrongsDesk d = Expect.desk(5);
    d.matter(0, 0, 0, 0, 0);
    for (int n = 0; n < 2; n++) {
      E.due("P40 missed", d.week(0), 0);
      E.due("P40 over", d.week(1), 0);
      E.due("P40 the first", d.week(10), -1);
      d.tape(0, 0, 2);
      d.item(0, 0, -1);
      E.due("P41 nothing of the tape is looked at", d.judge(0), 0);
      d.plan(0, 9, 0);
      E.due("P40 missed", d.week(0), 1);
      E.due("P39 planless", d.planless(), 1);
    }
  }

  private static void emptyText() {
    WrongsDesk d = new WrongsDesk();
    E.due("P23 the end of an empty text", d.law(0, 0), -10);
    E.due("P23 no law came", d.count(5), 0);
    E.due("P22 feed none", d.feed(-1, 0), 0);
    E.due("P23 the end of an empty text", d.law(-1, 9999), -10);
    Expect.text(d, "cap 1");
    E.due("P23 a law", d.law(0, 0), 0);
    E.due("P23 the text is empty then", d.law(0, 0), -10);
    E.due("P22 from the first byte on", d.feed('x', 1), 1);
    E.due("P23 a fault", d.law(0, 0), -10);
    E.due("P23 the text is empty then", d.count(6), 0);
  }
}
