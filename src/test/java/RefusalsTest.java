import java.util.List;

/**
 * Where a call could be refused in two ways it answers the first that its words name; where there is no room, FULL;
 * where something is not in the state that it asks for, STATE. What is refused so changes nothing.
 */
public final class RefusalsTest {
  private static final Expect E = new Expect("RefusalsTest");
  private static final int NONE = -1, BAD = -2, STATE = -3, FULL = -4, NOTHING = -11, CAST = -12, PLACE = -13, SIZE = -14;

  /** How a desk is made ready. */
  private interface Make {
    WrongsDesk desk();
  }

  private static Make make = Scene::desk;
  private static List<String> asItWas;

  public static void main(String[] args) {
    on(Scene::desk);
    noSuchNumberFirst();
    badAheadOfState();
    states();
    onTapes();
    on(RefusalsTest::manyFeasts);
    feasts();
    on(RefusalsTest::manyPeople);
    people();
    on(RefusalsTest::manyMatters);
    matters();
    on(RefusalsTest::manyActs);
    acts();
    on(RefusalsTest::manyLaws);
    laws();
    on(RefusalsTest::longText);
    text();
    on(RefusalsTest::manyCauses);
    causes();
    on(RefusalsTest::longWeek);
    week();
    E.close();
  }

  private static void on(Make how) {
    make = how;
    asItWas = Scene.readings(make.desk());
  }

  private static void refused(String call, long refusal, Scene.Call of) {
    WrongsDesk d = make.desk();
    E.due(call, of.on(d), refusal);
    List<String> now = Scene.readings(d);
    for (int i = 0; i < now.size(); i++) {
      if (!now.get(i).equals(asItWas.get(i))) {
        E.due(call + " changed " + asItWas.get(i) + ": " + now.get(i), 1, 0);
      }
    }
  }

  private static void noSuchNumberFirst() {
    refused("P6 let: person, is", NONE, d -> d.let(2, 2));
    refused("P7 matter: person, topic", NONE, d -> d.matter(2, 0, 10, 0, 0));
    refused("P7 matter: body, day", NONE, d -> d.matter(0, 6, 0, 22, 0));
    refused("P7 matter: body, loss", NONE, d -> d.matter(0, -1, 0, 0, -1));
    refused("P11 find: matter, award", NONE, d -> d.find(9, -1));
    refused("P13 join: matter, itself", NONE, d -> d.join(9, 9));
    refused("P13 join: to, state", NONE, d -> d.join(1, 9));
    refused("P14 watch: matter, sort", NONE, d -> d.watch(9, 0, 0));
    refused("P14 watch: matter, day", NONE, d -> d.watch(-1, 1, -1));
    refused("P15 reach: matter, day", NONE, d -> d.reach(9, 10000));
    refused("P16 end: what, state", NONE, d -> d.end(0, 2));
    refused("P18 file: matter, sort", NONE, d -> d.file(9, 0, 0, 0));
    refused("P19 papers: matter, n", NONE, d -> d.papers(9, 0, 0, 0));
    refused("P19 papers: tape, n", NONE, d -> d.papers(0, 6, 0, 21));
    refused("P19 papers: matter, another sort", NONE, d -> d.papers(9, 1, 0, 1));
    refused("P23 law: body, day", NONE, d -> d.law(6, 10000));
    refused("P25 owes: matter, day", NONE, d -> d.owes(9, 10000));
    refused("P27 good: matter, day", NONE, d -> d.good(9, 10000));
    refused("P28 alike: both, one", NONE, d -> d.alike(9, 9));
    refused("P28 alike: a, state", NONE, d -> d.alike(9, 0));
    refused("P28 alike: b, state", NONE, d -> d.alike(0, 9));
    refused("P30 cause: body, sort", NONE, d -> d.cause(6, 10, 0));
    refused("P34 row: what, hidden", NONE, d -> d.row(1, 4));
    refused("P35 grade: hand, g", NONE, d -> d.grade(6, 0, 10));
    refused("P35 grade: matter, g", NONE, d -> d.grade(0, 9, 10));
    refused("P37 agreed: both, one", NONE, d -> d.agreed(6, 6));
    refused("P38 plan: matter, work", NONE, d -> d.plan(9, 0, 0));
  }

  private static void badAheadOfState() {
    refused("P11 find: award, kind", BAD, d -> d.find(0, -1));
    refused("P11 find: award, nothing owed", BAD, d -> d.find(4, 100000));
    refused("P13 join: itself, kind", BAD, d -> d.join(1, 1));
    refused("P14 watch: sort, kind", BAD, d -> d.watch(0, 10, 0));
    refused("P14 watch: day, kind", BAD, d -> d.watch(6, 1, 10000));
    refused("P19 papers: n, another sort", BAD, d -> d.papers(0, 1, 0, 0));
    refused("P28 alike: one, state", BAD, d -> d.alike(0, 0));
    refused("P28 alike: one", BAD, d -> d.alike(3, 3));
    refused("P37 agreed: one", BAD, d -> d.agreed(1, 1));
    refused("P38 plan: work, it is in it", BAD, d -> d.plan(3, 10, 0));
    refused("P38 plan: day, it is in it", BAD, d -> d.plan(3, 1, -1));
    refused("P44 taken: k, no matter", BAD, d -> d.taken(9, 7));
  }

  private static void states() {
    for (int m = 1; m < 8; m++) {
      int one = m;
      refused("P9 out of kind " + m, STATE, d -> d.out(one));
      refused("P10 ask of kind " + m, STATE, d -> d.ask(one));
      refused("P13 join of kind " + m, STATE, d -> d.join(one, one == 2 ? 3 : 2));
    }
    refused("P9 out: in reach", STATE, d -> d.out(0));
    refused("P10 ask: not in reach", STATE, d -> d.ask(8));
    refused("P13 join to one that is out", STATE, d -> d.join(0, 1));
    refused("P13 join to one that is joined", STATE, d -> d.join(0, 5));
    for (int m = 0; m < 9; m++) {
      int one = m;
      if (m != 2) {
        refused("P11 find of matter " + m, STATE, d -> d.find(one, 1));
        refused("P12 settle of matter " + m, STATE, d -> d.settle(one));
        refused("P16 end of matter " + m, STATE, d -> d.end(one, 0));
        refused("P16 overdue of matter " + m, STATE, d -> d.end(one, 1));
      }
      if (m != 3 && m != 7) {
        refused("P14 watch of matter " + m, STATE, d -> d.watch(one, 1, 30));
      }
      if (m != 3 && m != 6 && m != 7) {
        refused("P28 alike of matter " + m, STATE, d -> d.alike(one, 3));
        refused("P28 alike with matter " + m, STATE, d -> d.alike(3, one));
      }
      if (m != 6) {
        refused("P17 kept of matter " + m, STATE, d -> d.kept(one));
      }
      if (m != 0) {
        refused("P20 patch of matter " + m, STATE, d -> d.patch(one));
      }
    }
    int[] off = {5, 6, 12, 13, 16, 19, 20, 9994, 9995};
    for (int day : off) {
      refused("P3 feast: off " + day, STATE, d -> d.feast(day));
    }
    for (int i : new int[] {1, 2, 4, 5, 6}) {
      refused("P34 row: hidden " + i, STATE, d -> d.row(i, 0));
    }
    for (int m : new int[] {3, 6, 0}) {
      refused("P38 plan: in it " + m, STATE, d -> d.plan(m, 1, 1));
    }
  }

  private static void onTapes() {
    refused("P19 papers: bytes", CAST, d -> d.papers(0, 1, 0, 1));
    refused("P19 papers: shorts, from below 0 on", CAST, d -> d.papers(0, 2, -1, 1));
    refused("P19 papers: longs, beyond the end", CAST, d -> d.papers(0, 3, 80, 20));
    refused("P41 judge: nothing", NOTHING, d -> d.judge(4));
    refused("P41 judge: shorts", CAST, d -> d.judge(2));
    refused("P41 judge: longs, too few", CAST, d -> d.judge(3));
    refused("P44 taken: no matter", NOTHING, d -> d.taken(9, 0));
    refused("P44 taken: another kind", CAST, d -> d.taken(0, 1));
    refused("P46 tape: tape, sort, n", NONE, d -> d.tape(6, 4, 81));
    refused("P46 tape: tape, size", NONE, d -> d.tape(-1, 0, -1));
    refused("P46 tape: sort, size", BAD, d -> d.tape(0, 4, -1));
    refused("P46 tape: sort below -1, size", BAD, d -> d.tape(0, -2, -1));
    refused("P46 tape: size", SIZE, d -> d.tape(1, 3, -1));
    refused("P47 item: tape, place", NONE, d -> d.item(6, -1, 1));
    refused("P47 item: nothing, place", NOTHING, d -> d.item(4, -1, 1));
    refused("P49 shift: tape, nothing", NONE, d -> d.shift(6, 0, 4, 0, 0));
    refused("P49 shift: other, nothing", NONE, d -> d.shift(4, 0, 6, 0, 0));
    refused("P49 shift: other, sort", NONE, d -> d.shift(0, 0, -1, 0, 1));
    refused("P49 shift: nothing, place", NOTHING, d -> d.shift(4, -1, 0, 0, 1));
    refused("P49 shift: to nothing, place", NOTHING, d -> d.shift(0, 0, 4, -1, 1));
    refused("P49 shift: nothing to itself", NOTHING, d -> d.shift(4, 0, 4, 0, 0));
    refused("P49 shift: unlike sorts, place", CAST, d -> d.shift(0, -1, 1, 99, -1));
    for (int a = 0; a < 4; a++) {
      for (int b = 0; b < 4; b++) {
        int from = a;
        int to = b;
        if (a != b) {
          refused("P49 shift: unlike sorts of " + a + " and " + b, CAST, d -> d.shift(from, 0, to, 0, 0));
        }
      }
    }
    refused("P49 shift: n as far below 0 as can be", PLACE, d -> d.shift(0, 6, 5, 3, Integer.MIN_VALUE));
    refused("P49 shift: i and n wrap", PLACE, d -> d.shift(0, Integer.MAX_VALUE, 5, 0, Integer.MAX_VALUE));
    refused("P49 shift: j and n wrap", PLACE, d -> d.shift(0, 1, 5, Integer.MAX_VALUE, Integer.MAX_VALUE));
  }

  // as many as there is room for

  /** Feasts behind the days of the scene, so that these stay as they are. */
  private static WrongsDesk manyFeasts() {
    WrongsDesk d = Scene.desk();
    for (int n = 2; n <= 20; n++) {
      E.due("T1 feast " + n, d.feast(100 + 7 * n), n);
    }
    return d;
  }

  private static void feasts() {
    refused("P3 feast: full", FULL, d -> d.feast(9999));
    refused("P3 feast: bad ahead of full", BAD, d -> d.feast(10000));
    refused("P3 feast: bad ahead of full", BAD, d -> d.feast(-1));
    refused("P3 feast: a weekend ahead of full", STATE, d -> d.feast(5));
    refused("P3 feast: a feast ahead of full", STATE, d -> d.feast(240));
  }

  private static WrongsDesk manyPeople() {
    WrongsDesk d = Scene.desk();
    for (int n = 2; n < 20; n++) {
      E.due("T1 person " + n, d.person(n % 2), n);
    }
    return d;
  }

  private static void people() {
    refused("P5 person: full", FULL, d -> d.person(0));
    refused("P5 person: full", FULL, d -> d.person(1));
    refused("P5 person: bad ahead of full", BAD, d -> d.person(2));
    refused("P5 person: bad ahead of full", BAD, d -> d.person(-1));
    E.due("P6 let of the last", make.desk().let(19, 0), 1);
    E.due("P7 matter of the last", make.desk().matter(19, 0, 0, 0, 0), 9);
  }

  private static WrongsDesk manyMatters() {
    WrongsDesk d = Scene.desk();
    for (int n = 9; n < 40; n++) {
      E.due("T1 matter " + n, d.matter(0, 3, 9, 21, 7), n);
    }
    return d;
  }

  private static void matters() {
    refused("P7 matter: full", FULL, d -> d.matter(0, 0, 0, 0, 0));
    refused("P7 matter: person ahead of full", NONE, d -> d.matter(2, 0, 0, 0, 0));
    refused("P7 matter: body ahead of full", NONE, d -> d.matter(0, 6, 0, 0, 0));
    refused("P7 matter: topic ahead of full", BAD, d -> d.matter(0, 0, 10, 0, 0));
    refused("P7 matter: day ahead of full", BAD, d -> d.matter(0, 0, 0, 22, 0));
    refused("P7 matter: loss ahead of full", BAD, d -> d.matter(0, 0, 0, 0, 10000));
    refused("P8 of beyond the last", -5, d -> d.of(40, 0));
    E.due("P8 of the last", make.desk().of(39, 3), 9);
    E.due("P35 grade of the last", make.desk().grade(0, 39, 9), 7);
  }

  /** All on matter 8, whose file holds nothing of the sorts that the scene asks for. */
  private static WrongsDesk manyActs() {
    WrongsDesk d = Scene.desk();
    d.tape(4, 2, 60);
    d.item(4, 0, 9);
    for (int n = 3; n < 48; n *= 2) {
      d.shift(4, 0, 4, n, n);
    }
    d.shift(4, 0, 4, 48, 12);
    for (int n = 0; n < 7; n++) {
      E.due("P19 papers", d.papers(8, 4, 0, 20), 20);
    }
    E.due("T2 the last but one", d.file(8, 9, 0, 0), 149);
    E.due("T2 the last", d.file(8, 9, 0, 0), 150);
    d.tape(4, -1, 0);
    return d;
  }

  private static void acts() {
    refused("P18 file: full", FULL, d -> d.file(8, 9, 0, 0));
    refused("P18 file: full, of another matter", FULL, d -> d.file(0, 1, 0, 0));
    refused("P18 file: matter ahead of full", NONE, d -> d.file(9, 1, 0, 0));
    refused("P18 file: sort ahead of full", BAD, d -> d.file(0, 0, 0, 0));
    refused("P18 file: day ahead of full", BAD, d -> d.file(0, 1, 22, 0));
    refused("P18 file: word ahead of full", BAD, d -> d.file(0, 1, 0, 100));
    refused("P19 papers: no room, which tears nothing", 0, d -> d.papers(1, 0, 0, 1));
    refused("P19 papers: no room for the first of several", 0, d -> d.papers(1, 0, 0, 20));
    refused("P19 papers: n ahead of no room", BAD, d -> d.papers(1, 0, 0, 21));
    WrongsDesk d = make.desk();
    E.due("P19 papers: not all three, ahead of no room", d.papers(1, 0, 4, 1), 0);
    E.due("which tears", d.of(1, 9), 21);
    E.due("P19 papers: nothing there, ahead of no room", d.papers(3, 4, 0, 1), 0);
    E.due("which tears", d.of(3, 9), 21);
  }

  private static WrongsDesk manyLaws() {
    WrongsDesk d = Scene.desk();
    E.due("law 2", d.law(3, 0), 2);
    for (int n = 3; n < 12; n++) {
      E.due("T3 law " + n, Expect.law(d, 4, n, "cap 1"), n);
    }
    Expect.text(d, "x");
    return d;
  }

  private static void laws() {
    refused("P23 law: full, ahead of the fault", FULL, d -> d.law(0, 0));
    refused("P23 law: body ahead of full", NONE, d -> d.law(6, 0));
    refused("P23 law: day ahead of full", BAD, d -> d.law(0, 10000));
    E.due("the text stays", textBehind(d -> d.law(0, 0)), 1);
    E.due("the text stays", textBehind(d -> d.law(6, 0)), 1);
    E.due("the text stays", textBehind(d -> d.law(0, -1)), 1);
    E.due("P24 the last", make.desk().lawful(4, 11, 0), 11);
  }

  private static int textBehind(Scene.Call call) {
    WrongsDesk d = make.desk();
    call.on(d);
    return d.count(6);
  }

  /** "few 7" and 152 times more a clause of it, cut where it would end: 157 bytes. */
  private static WrongsDesk longText() {
    WrongsDesk d = Scene.desk();
    Expect.text(d, ";few 8;few 9;reach t1" + "|t2".repeat(43) + "|t");
    E.due("P22 bytes", d.count(6), 157);
    return d;
  }

  private static void text() {
    refused("P22 feed: full", FULL, d -> d.feed('3', 4));
    refused("P22 feed: bad ahead of full", BAD, d -> d.feed('3', 5));
    refused("P22 feed: bad ahead of full", BAD, d -> d.feed('3', -1));
    refused("P22 feed: none", 157, d -> d.feed('3', 0));
    WrongsDesk d = make.desk();
    E.due("P22 feed three", d.feed('3' << 16 | '|' << 8 | 't', 3), 160);
    E.due("P22 feed: full", d.feed('3', 1), FULL);
    E.due("P22 feed: full", d.feed('3', 4), FULL);
    E.due("P22 feed none", d.feed('3', 0), 160);
    E.due("P23 the end of the whole text", d.law(0, 0), -170);
    E.due("P23 the text is empty then", d.count(6), 0);
    d = make.desk();
    d.feed('3' << 16 | '&' << 8 | 't', 3);
    d.feed('4', 0);
    E.due("P23 the end of the whole text", d.law(0, 0), -170);
    d = make.desk();
    d.feed('3', 1);
    E.due("P23 a long law", d.law(0, 0), 2);
  }

  private static WrongsDesk manyCauses() {
    WrongsDesk d = Scene.desk();
    for (int n = 3; n < 12; n++) {
      E.due("T4 cause " + n, d.cause(5, 9, 3), n);
    }
    return d;
  }

  private static void causes() {
    refused("P30 cause: full", FULL, d -> d.cause(0, 0, 0));
    refused("P30 cause: body ahead of full", NONE, d -> d.cause(-2, 0, 0));
    refused("P30 cause: sort ahead of full", BAD, d -> d.cause(0, 10, 0));
    refused("P30 cause: wrong ahead of full", BAD, d -> d.cause(0, 0, 4));
    refused("P31 reaches beyond the last", NONE, d -> d.reaches(12, 0));
    E.due("P31 reaches of the last", make.desk().reaches(11, 0), 0);
  }

  private static WrongsDesk longWeek() {
    WrongsDesk d = Scene.desk();
    int[] more = {1, 2, 4, 5};
    for (int i = 0; i < more.length; i++) {
      E.due("T8 in the week", d.plan(more[i], 9, 9999), 4 + i);
    }
    return d;
  }

  private static void week() {
    refused("P38 plan: full", FULL, d -> d.plan(7, 1, 1));
    refused("P38 plan: matter ahead of full", NONE, d -> d.plan(9, 1, 1));
    refused("P38 plan: work ahead of full", BAD, d -> d.plan(7, 0, 1));
    refused("P38 plan: day ahead of full", BAD, d -> d.plan(7, 1, 10000));
    for (int m = 0; m < 7; m++) {
      int one = m;
      refused("P38 plan: it is in it, ahead of full", STATE, d -> d.plan(one, 1, 1));
      refused("P38 plan: bad ahead of both", BAD, d -> d.plan(one, 10, 1));
    }
    refused("P40 week beyond the last", NONE, d -> d.week(17));
    refused("P41 judge: too few for the week", PLACE, d -> d.judge(1));
    E.due("P39 planless", make.desk().planless(), 7);
  }
}
