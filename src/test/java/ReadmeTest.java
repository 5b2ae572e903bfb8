/** The run of calls that README.md tells, and the answers that it tells of them. */
public final class ReadmeTest {
  private static final Expect E = new Expect("ReadmeTest");

  public static void main(String[] args) {
    WrongsDesk desk = new WrongsDesk();
    int person = desk.person(1);
    int matter = desk.matter(person, 0, 3, 0, 120);
    for (byte b : "owe 1 5".getBytes()) {
      desk.feed(b, 1);
    }
    E.due("the law's number", desk.law(0, 0), 0);
    E.due("the answer's day", desk.ask(matter), 42);
    E.due("ten days go by", desk.pass(10), 10);
    E.due("what lacks", desk.find(matter, 50), 1);
    E.due("what is owed is due", desk.owed(matter, 10, 0, 1), 7);
    E.due("it lacks", desk.owed(matter, 10, 0, 2), 2);
    E.due("what makes it good", desk.good(matter, 10), 120);
    E.due("a promise", desk.watch(matter, 1, 14), 1);
    E.due("the act", desk.file(matter, 1, 10, 0), 1);
    E.due("it is kept", desk.kept(matter), 1);
    E.due("no such matter", desk.ask(7), WrongsDesk.NONE);
    E.due("it was asked already", desk.ask(matter), WrongsDesk.STATE);
    E.due("a text that is no law", fault("cap 12;few x"), -10 - 11);
    E.close();
  }

  private static int fault(String text) {
    return Expect.law(new WrongsDesk(), WrongsDesk.NONE, 0, text);
  }
}
