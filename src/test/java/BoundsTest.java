import java.util.List;

/**
 * Every number of every call: what is below the least or above the most that the document tells, just beside it and
 * far off, is refused as told and changes nothing; the least and the most are taken.
 */
public final class BoundsTest {
  private static final Expect E = new Expect("BoundsTest");
  private static final long NO = Long.MIN_VALUE;
  private static final int NONE = -1, BAD = -2, NONE_SUCH = -5, NOT_FILED = -100, NOTHING = -11, PLACE = -13, SIZE = -14;
  private static final List<String> AS_IT_WAS = Scene.readings(Scene.desk());

  /** A call with one of its numbers left open. */
  private interface With {
    long on(WrongsDesk desk, int v);
  }

  public static void main(String[] args) {
    days();
    people();
    matters();
    kinds();
    files();
    laws();
    owed();
    harm();
    reports();
    hands();
    weeks();
    acts();
    tapes();
    shifts();
    E.close();
  }

  private static void refused(String call, int v, long refusal, With with) {
    WrongsDesk d = Scene.desk();
    E.due(call + " with " + v, with.on(d, v), refusal);
    same(call + " with " + v, d);
  }

  private static void same(String call, WrongsDesk d) {
    List<String> now = Scene.readings(d);
    for (int i = 0; i < now.size(); i++) {
      if (!now.get(i).equals(AS_IT_WAS.get(i))) {
        E.due(call + " changed " + AS_IT_WAS.get(i) + ": " + now.get(i), 1, 0);
      }
    }
  }

  private static void below(String call, long refusal, int least, With with) {
    refused(call, least - 1, refusal, with);
    refused(call, Integer.MIN_VALUE, refusal, with);
  }

  private static void above(String call, long refusal, int most, With with) {
    refused(call, most + 1, refusal, with);
    refused(call, Integer.MAX_VALUE, refusal, with);
  }

  private static void taken(String call, int v, long due, With with) {
    E.due(call + " with " + v, with.on(Scene.desk(), v), due);
  }

  /** A call that changes the desk, if it is not refused. */
  private static void number(String call, long refusal, int least, long dueLeast, int most, long dueMost, With with) {
    below(call, refusal, least, with);
    above(call, refusal, most, with);
    taken(call, least, dueLeast, with);
    taken(call, most, dueMost, with);
  }

  /** A call that only asks: it changes nothing, whatever it answers. */
  private static void asking(String call, long refusal, int least, long dueLeast, int most, long dueMost, With with) {
    below(call, refusal, least, with);
    above(call, refusal, most, with);
    refused(call, least, dueLeast, with);
    refused(call, most, dueMost, with);
  }

  private static void days() {
    number("P2 pass(n)", BAD, 1, 22, 400, 421, (d, v) -> d.pass(v));
    number("P3 feast(day)", BAD, 0, 2, 9999, 2, (d, v) -> d.feast(v));
    asking("P4 working(day)", BAD, 0, 1, 9999, 10000, (d, v) -> d.working(v, 1));
    asking("P4 working(n)", BAD, 0, 0, 400, 561, (d, v) -> d.working(0, v));
  }

  private static void people() {
    number("P5 person(let)", BAD, 0, 2, 1, 2, (d, v) -> d.person(v));
    number("P6 let(person)", NONE, 0, 1, 1, 0, (d, v) -> d.let(v, 1));
    number("P6 let(is)", BAD, 0, 1, 1, 1, (d, v) -> d.let(0, v));
  }

  private static void matters() {
    number("P7 matter(person)", NONE, 0, 9, 1, 9, (d, v) -> d.matter(v, 0, 0, 0, 0));
    number("P7 matter(body)", NONE, 0, 9, 5, 9, (d, v) -> d.matter(0, v, 0, 0, 0));
    number("P7 matter(topic)", BAD, 0, 9, 9, 9, (d, v) -> d.matter(0, 0, v, 0, 0));
    number("P7 matter(day)", BAD, 0, 9, 21, 9, (d, v) -> d.matter(0, 0, 0, v, 0));
    number("P7 matter(loss)", BAD, 0, 9, 9999, 9, (d, v) -> d.matter(0, 0, 0, 0, v));
    asking("P8 of(matter)", NONE_SUCH, 0, 50, 8, 20, (d, v) -> d.of(v, 5));
    asking("P8 of(what)", NONE_SUCH, 0, 6, 9, -1, (d, v) -> d.of(6, v));
  }

  private static void kinds() {
    number("P9 out(matter)", NONE, 0, -3, 8, 1, (d, v) -> d.out(v));
    number("P10 ask(matter)", NONE, 0, 28, 8, -3, (d, v) -> d.ask(v));
    number("P11 find(matter)", NONE, 0, -3, 8, -3, (d, v) -> d.find(v, 0));
    number("P11 find(award)", BAD, 0, 3, 99999, 3, (d, v) -> d.find(2, v));
    number("P12 settle(matter)", NONE, 0, -3, 8, -3, (d, v) -> d.settle(v));
    number("P13 join(matter)", NONE, 0, 1, 8, 1, (d, v) -> d.join(v, 2));
    number("P13 join(to)", NONE, 0, 1, 8, -2, (d, v) -> d.join(8, v));
    number("P14 watch(matter)", NONE, 0, -3, 8, -3, (d, v) -> d.watch(v, 1, 30));
    number("P14 watch(sort)", BAD, 1, 1, 9, 1, (d, v) -> d.watch(3, v, 30));
    number("P14 watch(day)", BAD, 0, 1, 9999, 1, (d, v) -> d.watch(3, 1, v));
    asking("P15 reach(matter)", NONE, 0, 1, 8, 0, (d, v) -> d.reach(v, 21));
    asking("P15 reach(day)", BAD, 6, 1, 9999, 0, (d, v) -> d.reach(3, v));
    asking("P16 end(matter)", NONE, 0, -3, 8, -3, (d, v) -> d.end(v, 0));
    asking("P16 end(what)", NONE, 0, 25, 1, 0, (d, v) -> d.end(2, v));
    asking("P17 kept(matter)", NONE, 0, -3, 8, -3, (d, v) -> d.kept(v));
  }

  private static void files() {
    number("P18 file(matter)", NONE, 0, 9, 8, 9, (d, v) -> d.file(v, 1, 0, 0));
    number("P18 file(sort)", BAD, 1, 9, 9, 9, (d, v) -> d.file(0, v, 0, 0));
    number("P18 file(day)", BAD, 0, 9, 21, 9, (d, v) -> d.file(0, 1, v, 0));
    number("P18 file(word)", BAD, -99, 9, 99, 9, (d, v) -> d.file(0, 1, 0, v));
    number("P19 papers(matter)", NONE, 0, 1, 8, 1, (d, v) -> d.papers(v, 0, 0, 1));
    number("P19 papers(tape)", NONE, 0, 1, 5, 1, (d, v) -> d.papers(0, v, 0, 1));
    number("P19 papers(n)", BAD, 1, 1, 20, 2, (d, v) -> d.papers(0, 0, 0, v));
    number("P20 patch(matter)", NONE, 0, 1, 8, -3, (d, v) -> d.patch(v));
    asking("P21 filed(matter)", NOT_FILED, 0, 0, 8, 0, (d, v) -> d.filed(v, 1, 21, 3));
    asking("P21 filed(sort)", NOT_FILED, 1, 1, 9, 0, (d, v) -> d.filed(3, v, 21, 3));
    asking("P21 filed(known)", NOT_FILED, 0, 0, 9999, 1, (d, v) -> d.filed(3, 1, v, 3));
    asking("P21 filed(what)", NOT_FILED, 0, 12, 3, 1, (d, v) -> d.filed(3, 1, 21, v));
  }

  private static void laws() {
    number("P22 feed(n)", BAD, 0, 5, 4, 9, (d, v) -> d.feed(0, v));
    number("P23 law(body)", NONE, -1, 2, 5, 2, (d, v) -> d.law(v, 0));
    number("P23 law(day)", BAD, 0, 2, 9999, 2, (d, v) -> d.law(0, v));
    asking("P24 lawful(body)", NONE_SUCH, -1, 1, 5, -1, (d, v) -> d.lawful(v, 21, 0));
    asking("P24 lawful(day)", NONE_SUCH, 0, 0, 9999, 0, (d, v) -> d.lawful(0, v, 0));
    asking("P24 lawful(what)", NONE_SUCH, 0, 1, 8, 2, (d, v) -> d.lawful(-1, 21, v));
  }

  private static void owed() {
    asking("P25 owes(matter)", NONE, 0, 3, 8, 2, (d, v) -> d.owes(v, 21));
    asking("P25 owes(day)", BAD, 6, 2, 9999, 3, (d, v) -> d.owes(3, v));
    asking("P26 owed(matter)", NONE_SUCH, 0, 1, 8, 1, (d, v) -> d.owed(v, 21, 0, 0));
    asking("P26 owed(day)", NONE_SUCH, 6, 1, 9999, 1, (d, v) -> d.owed(3, v, 0, 0));
    asking("P26 owed(i)", NONE_SUCH, 0, 1, 2, 3, (d, v) -> d.owed(3, 21, v, 0));
    asking("P26 owed(what)", NONE_SUCH, 0, 3, 3, 2, (d, v) -> d.owed(3, 21, 2, v));
  }

  private static void harm() {
    asking("P27 good(matter)", NONE, 0, 0, 8, 20, (d, v) -> d.good(v, 21));
    asking("P27 good(day)", BAD, 6, 0, 9999, 164, (d, v) -> d.good(3, v));
    asking("P28 alike(a)", NONE, 0, -3, 8, -3, (d, v) -> d.alike(v, 3));
    asking("P28 alike(b)", NONE, 0, -3, 8, -3, (d, v) -> d.alike(3, v));
    asking("P29 unlike(what)", NONE, 0, 1, 2, 7, (d, v) -> d.unlike(v));
    number("P30 cause(body)", NONE, -1, 3, 5, 3, (d, v) -> d.cause(v, 0, 0));
    number("P30 cause(sort)", BAD, 0, 3, 9, 3, (d, v) -> d.cause(0, v, 0));
    number("P30 cause(wrong)", BAD, 0, 3, 3, 3, (d, v) -> d.cause(0, 0, v));
    asking("P31 reaches(cause)", NONE, 0, 3, 2, 1, (d, v) -> d.reaches(v, 0));
    asking("P31 reaches(what)", NONE, 0, 3, 1, 4, (d, v) -> d.reaches(0, v));
  }

  private static void reports() {
    number("P33 report(columns)", BAD, 0, 1, 7, 8, (d, v) -> d.report(v));
    asking("P34 row(i)", NONE, 0, 2, 6, -3, (d, v) -> d.row(v, 0));
    asking("P34 row(what)", NONE, 0, 2, 3, 3, (d, v) -> d.row(3, v));
    asking("P34 row(what) of one that is hidden", NONE, 0, -3, 3, -3, (d, v) -> d.row(1, v));
  }

  private static void hands() {
    number("P35 grade(hand)", NONE, 0, 7, 5, 7, (d, v) -> d.grade(v, 7, 5));
    number("P35 grade(matter)", NONE, 0, 7, 8, 7, (d, v) -> d.grade(3, v, 5));
    number("P35 grade(g)", BAD, 0, 7, 9, 7, (d, v) -> d.grade(3, 0, v));
    asking("P36 habit(hand)", NO, 0, 3, 5, 5, (d, v) -> d.habit(v, 0));
    asking("P36 habit(part)", NO, 0, 3, 1, 2, (d, v) -> d.habit(0, v));
    asking("P37 agreed(a)", NONE, 0, 0, 5, 0, (d, v) -> d.agreed(v, 1));
    asking("P37 agreed(b)", NONE, 0, 0, 5, 0, (d, v) -> d.agreed(1, v));
  }

  private static void weeks() {
    number("P38 plan(matter)", NONE, 0, -3, 8, 4, (d, v) -> d.plan(v, 1, 50));
    number("P38 plan(work)", BAD, 1, 4, 9, 4, (d, v) -> d.plan(7, v, 50));
    number("P38 plan(day)", BAD, 0, 4, 9999, 4, (d, v) -> d.plan(7, 1, v));
    asking("P40 week(what)", NONE, 0, 1, 1, 1, (d, v) -> d.week(v));
    asking("P40 week(10 and i)", NONE, 10, 3, 12, 0, (d, v) -> d.week(v));
    asking("P41 judge(tape)", NONE, 0, -12, 5, -12, (d, v) -> d.judge(v));
  }

  /** act() is no refusal with a negative number, but 0, and no TRACE is left. */
  private static void acts() {
    int[] off = {-1, 9, Integer.MIN_VALUE, Integer.MAX_VALUE};
    for (int v : off) {
      noAct("P42 act(matter) with " + v, d -> d.act(v, 0, 5));
    }
    int[] acts = {-1, 3, Integer.MIN_VALUE, Integer.MAX_VALUE};
    for (int v : acts) {
      noAct("P42 act(act) with " + v, d -> d.act(0, v, 5));
    }
    taken("P42 act(matter)", 0, 5, (d, v) -> d.act(v, 0, 5));
    taken("P42 act(matter)", 8, 13, (d, v) -> d.act(v, 0, 5));
    taken("P42 act(act)", 0, 5, (d, v) -> d.act(0, v, 5));
    taken("P42 act(act)", 2, 11, (d, v) -> d.act(0, v, 5));
    asking("P43 trace(i)", NONE, 0, 41, 10, 10, (d, v) -> d.trace(v));
    asking("P44 taken(matter)", NOTHING, 0, 0, 8, 0, (d, v) -> d.taken(v, 0));
    asking("P44 taken(k)", BAD, 0, 6, 6, 6, (d, v) -> d.taken(6, v));
    asking("P45 count(what)", BAD, 0, 21, 10, 11, (d, v) -> d.count(v));
  }

  private static void noAct(String call, Scene.Call of) {
    WrongsDesk d = Scene.desk();
    E.due(call, of.on(d), 0);
    E.due(call + ": bodies that ran", d.count(10), 0);
    E.due(call + ": no trace", d.trace(0), -1);
    List<String> now = Scene.readings(d);
    for (int i = 0; i < now.size(); i++) {
      boolean isTrace = now.get(i).startsWith("trace") || now.get(i).startsWith("count(10)");
      if (!isTrace && !now.get(i).equals(AS_IT_WAS.get(i))) {
        E.due(call + " changed " + AS_IT_WAS.get(i) + ": " + now.get(i), 1, 0);
      }
    }
  }

  private static void tapes() {
    number("P46 tape(tape)", NONE, 0, 1, 5, 1, (d, v) -> d.tape(v, 0, 1));
    number("P46 tape(sort)", BAD, -1, 1, 3, 1, (d, v) -> d.tape(0, v, 1));
    below("P46 tape(n)", SIZE, 0, (d, v) -> d.tape(0, 2, v));
    above("P46 tape(n)", BAD, 80, (d, v) -> d.tape(0, 2, v));
    taken("P46 tape(n)", 0, 1, (d, v) -> d.tape(0, 2, v));
    taken("P46 tape(n)", 80, 1, (d, v) -> d.tape(0, 2, v));
    int[] any = {-1, 81, Integer.MIN_VALUE, Integer.MAX_VALUE};
    for (int v : any) {
      taken("P46 tape(n) of nothing", v, 1, (d, n) -> d.tape(0, -1, n));
    }
    number("P47 item(tape)", NONE, 0, 1, 5, 1, (d, v) -> d.item(v, 0, 4));
    number("P47 item(i)", PLACE, 0, 1, 5, 1, (d, v) -> d.item(0, v, 4));
    asking("P48 read(tape)", NO, 0, 1, 5, 9, (d, v) -> d.read(v, 0));
    asking("P48 read(i)", NO, 0, 1, 5, -99, (d, v) -> d.read(0, v));
    refused("P48 read of a tape with nothing", 4, NO, (d, v) -> d.read(v, 0));
    refused("P47 item of a tape with nothing", 4, NOTHING, (d, v) -> d.item(v, 0, 4));
  }

  private static void shifts() {
    number("P49 shift(tape)", NONE, 0, 1, 5, 1, (d, v) -> d.shift(v, 0, 0, 0, 1));
    number("P49 shift(other)", NONE, 0, 1, 5, 1, (d, v) -> d.shift(0, 0, v, 0, 1));
    number("P49 shift(i) of one", PLACE, 0, 1, 5, 1, (d, v) -> d.shift(0, v, 5, 0, 1));
    number("P49 shift(i) of none", PLACE, 0, 0, 6, 0, (d, v) -> d.shift(0, v, 5, 0, 0));
    number("P49 shift(j) of one", PLACE, 0, 1, 2, 1, (d, v) -> d.shift(0, 0, 5, v, 1));
    number("P49 shift(j) of none", PLACE, 0, 0, 3, 0, (d, v) -> d.shift(0, 0, 5, v, 0));
    number("P49 shift(n) to the lesser one's end", PLACE, 0, 0, 3, 3, (d, v) -> d.shift(0, 0, 5, 0, v));
    number("P49 shift(n) from the lesser one's end", PLACE, 0, 0, 2, 2, (d, v) -> d.shift(5, 1, 0, 0, v));
    number("P49 shift(n) within one", PLACE, 0, 0, 5, 5, (d, v) -> d.shift(0, 0, 0, 1, v));
    refused("P49 shift of a tape with nothing", 4, NOTHING, (d, v) -> d.shift(v, 0, 0, 0, 0));
    refused("P49 shift to a tape with nothing", 4, NOTHING, (d, v) -> d.shift(0, 0, v, 0, 0));
  }
}
