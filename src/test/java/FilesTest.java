/** Promises 18 to 21: acts on file, papers, torn files. */
public final class FilesTest {
  private static final Expect E = new Expect("FilesTest");

  public static void main(String[] args) {
    entered();
    tornOnDayZero();
    known();
    full();
    papers();
    paperEdges();
    E.close();
  }

  private static void entered() {
    WrongsDesk d = Expect.desk(5);
    d.matter(0, 0, 0, 0, 0);
    E.due("file: none", d.file(1, 0, 0, 0), -1);
    E.due("file: none", d.file(-1, 1, 0, 0), -1);
    E.due("file: sort", d.file(0, 0, 0, 0), -2);
    E.due("file: sort", d.file(0, 10, 0, 0), -2);
    E.due("file: day behind today", d.file(0, 1, 6, 0), -2);
    E.due("file: day", d.file(0, 1, -1, 0), -2);
    E.due("file: word", d.file(0, 1, 0, 100), -2);
    E.due("file: word", d.file(0, 1, 0, -100), -2);
    E.due("file", d.file(0, 9, 5, 99), 1);
    E.due("file", d.file(0, 1, 0, -99), 2);
    E.due("acts", d.count(4), 2);
  }

  private static void tornOnDayZero() {
    WrongsDesk d = Expect.desk(0);
    Expect.law(d, 0, 0, "owe 1 0");
    d.matter(0, 0, 0, 0, 0);
    d.papers(0, 0, 0, 1);
    E.due("torn", d.of(0, 9), 0);
    d.pass(3);
    d.papers(0, 0, 0, 1);
    E.due("torn from the first time on", d.of(0, 9), 0);
    E.due("open", d.owed(0, 1, 0, 2), 3);
    E.due("patch", d.patch(0), 1);
    E.due("lacks", d.owed(0, 1, 0, 2), 2);
    d.papers(0, 0, 0, 1);
    E.due("torn anew", d.of(0, 9), 3);
  }

  private static void known() {
    WrongsDesk d = Expect.desk(5);
    d.matter(0, 0, 0, 0, 0);
    d.matter(0, 0, 0, 0, 0);
    d.file(0, 1, 3, 10);
    d.file(1, 1, 5, 77);
    d.pass(2);
    d.file(0, 1, 3, 20);
    d.file(0, 1, 2, 30);
    d.pass(2);
    d.file(0, 1, 9, 40);
    E.due("nothing known yet", d.filed(0, 1, 4, 0), -100);
    E.due("none yet", d.filed(0, 1, 4, 3), 0);
    E.due("latest day", d.filed(0, 1, 5, 0), 3);
    E.due("latest word", d.filed(0, 1, 6, 1), 10);
    E.due("latest word, of several the last entered", d.filed(0, 1, 7, 1), 20);
    E.due("first day", d.filed(0, 1, 7, 2), 2);
    E.due("how many", d.filed(0, 1, 8, 3), 3);
    E.due("latest day", d.filed(0, 1, 9, 0), 9);
    E.due("latest word", d.filed(0, 1, 9999, 1), 40);
    E.due("first day", d.filed(0, 1, 9999, 2), 2);
    E.due("the other's", d.filed(1, 1, 9999, 3), 1);
    E.due("filed: matter", d.filed(2, 1, 9, 3), -100);
    E.due("filed: matter", d.filed(-1, 1, 9, 3), -100);
    E.due("filed: sort", d.filed(0, 0, 9, 3), -100);
    E.due("filed: sort", d.filed(0, 10, 9, 3), -100);
    E.due("filed: day", d.filed(0, 1, -1, 3), -100);
    E.due("filed: day", d.filed(0, 1, 10000, 3), -100);
    E.due("filed: what", d.filed(0, 1, 9, 4), -100);
    E.due("filed: what", d.filed(0, 1, 9, -1), -100);
    E.due("filed: none of the sort", d.filed(0, 2, 9, 2), -100);
  }

  private static void full() {
    WrongsDesk d = Expect.desk(5);
    d.matter(0, 0, 0, 0, 0);
    d.matter(0, 0, 0, 0, 0);
    for (int n = 1; n <= 149; n++) {
      E.due("file", d.file(n % 2, 1, 0, 0), n);
    }
    d.tape(0, 2, 8);
    d.item(0, 0, 1);
    d.item(0, 3, 1);
    E.due("papers till there is no room", d.papers(0, 0, 0, 2), 1);
    E.due("which tears nothing", d.of(0, 9), -1);
    E.due("file: bad ahead of full", d.file(0, 0, 0, 0), -2);
    E.due("file: full", d.file(0, 1, 0, 0), -4);
    E.due("papers: a missing one tears, though there is no room", d.papers(0, 0, 6, 1), 0);
    E.due("torn", d.of(0, 9), 5);
  }

  private static void papers() {
    WrongsDesk d = Expect.desk(5);
    d.matter(0, 0, 0, 0, 0);
    d.tape(0, 2, 9);
    int[] told = {1, 5, -99, 9, 0, 99, 2, 6, 0};
    for (int i = 0; i < told.length; i++) {
      d.item(0, i, told[i]);
    }
    E.due("papers: matter", d.papers(1, 0, 0, 0), -1);
    E.due("papers: tape", d.papers(0, 6, 0, 0), -1);
    E.due("papers: tape", d.papers(0, -1, 0, 1), -1);
    E.due("papers: n", d.papers(0, 0, 0, 0), -2);
    E.due("papers: n", d.papers(0, 0, 0, 21), -2);
    E.due("papers", d.papers(0, 0, 0, 3), 2);
    E.due("a bad one ends it, and tears nothing", d.of(0, 9), -1);
    E.due("what came stays", d.count(4), 2);
    E.due("word", d.filed(0, 1, 5, 1), -99);
    E.due("word", d.filed(0, 9, 5, 1), 99);
    d.item(0, 7, 5);
    E.due("papers, all three", d.papers(0, 0, 0, 3), 3);
    E.due("not torn", d.of(0, 9), -1);
    E.due("papers beyond the row", d.papers(0, 0, 0, 4), 3);
    E.due("torn", d.of(0, 9), 5);
    d.pass(3);
    E.due("papers beyond the row", d.papers(0, 0, 7, 1), 0);
    E.due("torn from the first time on", d.of(0, 9), 5);
    E.due("patch: none", d.patch(1), -1);
    E.due("patch", d.patch(0), 1);
    E.due("patched", d.of(0, 9), -1);
    E.due("patch: it is not", d.patch(0), -3);
    E.due("papers from the last three on", d.papers(0, 0, 6, 1), 1);
    E.due("not torn", d.of(0, 9), -1);
  }

  private static void paperEdges() {
    WrongsDesk d = Expect.desk(5);
    int[] from = {-1, -3, 7, 9, Integer.MAX_VALUE, Integer.MIN_VALUE};
    d.tape(0, 2, 9);
    for (int i = 0; i < 9; i++) {
      d.item(0, i, 1);
    }
    for (int i = 0; i < from.length; i++) {
      d.matter(0, 0, 0, 0, 0);
      E.due("papers from " + from[i], d.papers(i, 0, from[i], 20), 0);
      E.due("torn", d.of(i, 9), 5);
    }
    d.matter(0, 0, 0, 0, 0);
    E.due("papers from a tape with nothing", d.papers(6, 1, 0, 1), 0);
    E.due("torn", d.of(6, 9), 5);
    d.matter(0, 0, 0, 0, 0);
    for (int sort = 0; sort < 4; sort++) {
      d.tape(2, sort, 3);
      E.due("papers of sort " + sort, d.papers(7, 2, -1, 1), sort == 2 ? 0 : -12);
      E.due("torn", d.of(7, 9), sort < 2 ? -1 : 5);
    }
    d.tape(3, 2, 0);
    d.matter(0, 0, 0, 0, 0);
    E.due("papers of a row of none", d.papers(8, 3, 0, 1), 0);
    E.due("torn", d.of(8, 9), 5);
    E.due("acts", d.count(4), 0);
  }
}
