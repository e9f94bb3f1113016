/** Promise 1: a new object. */
public final class NewDeskTest {
    public static void main(String[] args) {
        Check check = new Check("NewDeskTest");
        EmbargoDesk desk = new EmbargoDesk();
        for (int what = 0; what <= 14; what++) {
            check.due("count(" + what + ")", desk.count(what), what == 12 ? 3 : 0);
        }
        for (int person = 0; person < 10; person++) {
            for (int what = 0; what <= 3; what++) {
                check.due("person(" + person + ", " + what + ")", desk.person(person, what), 0);
            }
        }
        check.due("story(0, 0)", desk.story(0, 0), EmbargoDesk.UNKNOWN);
        check.due("client(0, 0)", desk.client(0, 0), EmbargoDesk.UNKNOWN);
        check.due("copy(0, 0, 0)", desk.copy(0, 0, 0), EmbargoDesk.UNKNOWN);
        check.due("copyAt(0)", desk.copyAt(0), EmbargoDesk.NONE);
        check.due("event(0, 0)", desk.event(0, 0), EmbargoDesk.NONE);
        check.due("undo()", desk.undo(), EmbargoDesk.NONE);
        check.due("restore()", desk.restore(), EmbargoDesk.NONE);
        check.due("clearText()", desk.clearText(), 0);

        EmbargoDesk other = new EmbargoDesk();
        desk.addClient(1, 0, 0, 1, 0);
        desk.pass(7);
        check.due("clients of another desk", other.count(1), 0);
        check.due("hour of another desk", other.count(0), 0);
        check.end();
    }
}
