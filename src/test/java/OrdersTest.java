/** Each order of checks that a "Returns" line gives: a call to which two answers could apply tells the first of them. */
public final class OrdersTest {
    private static final int UNKNOWN = EmbargoDesk.UNKNOWN;
    private static final int BAD_VALUE = EmbargoDesk.BAD_VALUE;
    private static final int FULL = EmbargoDesk.FULL;
    private static final int NOT_POSSIBLE = EmbargoDesk.NOT_POSSIBLE;
    private static final int NONE = EmbargoDesk.NONE;

    private static final Check CHECK = new Check("OrdersTest");

    public static void main(String[] args) throws IllegalAccessException {
        CHECK.allPromises(OrdersTest.class);
    }

    static void promise02_badValueBeforeFull() {
        EmbargoDesk desk = Scenes.full();
        CHECK.due("full", desk.addClient(1, 0, 0, 1, 0), FULL);
        CHECK.due("topics", desk.addClient(0, 0, 0, 1, 0), BAD_VALUE);
        CHECK.due("delay", desk.addClient(1, 49, 0, 1, 0), BAD_VALUE);
        CHECK.due("lag", desk.addClient(1, 0, 25, 1, 0), BAD_VALUE);
        CHECK.due("limit", desk.addClient(1, 0, 0, 0, 0), BAD_VALUE);
        CHECK.due("fee", desk.addClient(1, 0, 0, 1, -1), BAD_VALUE);
    }

    static void promise03_unknownBeforeBadValueBeforeNone() {
        EmbargoDesk desk = Scenes.oneClient(0, 0, 0);
        CHECK.due("unknown and bad value", desk.setTopics(1, 0), UNKNOWN);
        CHECK.due("unknown and bad value", desk.setTopics(-1, 256), UNKNOWN);
        CHECK.due("bad value", desk.setTopics(0, 0), BAD_VALUE);
        CHECK.due("none", desk.setTopics(0, 255), NONE);
    }

    static void promise04_unknownBeforeNone() {
        EmbargoDesk desk = Scenes.oneClient(0, 0, 0);
        CHECK.due("unknown", desk.setUp(1, true), UNKNOWN);
        CHECK.due("none", desk.setUp(0, true), NONE);
        desk.setUp(0, false);
        CHECK.due("none", desk.setUp(0, false), NONE);
    }

    static void promise05_badValueBeforeNone() {
        EmbargoDesk desk = new EmbargoDesk();
        CHECK.due("bad value", desk.setUse(0), BAD_VALUE);
        CHECK.due("none", desk.setUse(3), NONE);
        desk.setUse(9);
        CHECK.due("none", desk.setUse(9), NONE);
        CHECK.due("bad value", desk.setUse(10), BAD_VALUE);
    }

    static void promise06_unknownBeforeBadValueBeforeNotPossible() {
        EmbargoDesk desk = Scenes.oneClient(0, 0, 0);
        CHECK.due("unknown, bad value, not possible", desk.pay(1, 2000000001), UNKNOWN);
        CHECK.due("unknown, not possible", desk.pay(1, 1), UNKNOWN);
        CHECK.due("bad value, not possible", desk.pay(0, 2000000001), BAD_VALUE);
        CHECK.due("bad value, though it owes as much", desk.pay(0, 0), BAD_VALUE);
        CHECK.due("not possible", desk.pay(0, 2000000000), NOT_POSSIBLE);
    }

    static void promise07_faultBeforeFull() {
        EmbargoDesk desk = Scenes.full();
        CHECK.due("full", desk.readStory(), FULL);
        desk.type('m');
        CHECK.due("fault", desk.readStory(), -123);
        desk.clearText();
        CHECK.due("fault of the empty text", desk.readStory(), -100);
    }

    static void promise08_unknownBeforeNotPossible() {
        EmbargoDesk desk = Scenes.full();
        CHECK.due("unknown", desk.release(20), UNKNOWN);
        CHECK.due("not possible", desk.release(19), NOT_POSSIBLE);
    }

    static void promise09_unknownBeforeNotPossible() {
        EmbargoDesk desk = Scenes.full();
        CHECK.due("unknown", desk.hold(20), UNKNOWN);
        CHECK.due("not possible", desk.hold(19), NOT_POSSIBLE);
    }

    static void promise10_unknownBeforeBadValueBeforeNotPossibleBeforeNone() {
        EmbargoDesk desk = new EmbargoDesk();
        Desks.release(desk, "0 1 @0 a");
        Desks.read(desk, "0 1 @5 a");
        CHECK.due("held: bad value", desk.setEmbargo(1, -1), BAD_VALUE);
        CHECK.due("held: none", desk.setEmbargo(1, 5), NONE);
        CHECK.due("released: none", desk.setEmbargo(0, 0), NONE);
        desk.pass(1);
        CHECK.due("unknown and bad value", desk.setEmbargo(2, 1000), UNKNOWN);
        CHECK.due("published: bad value", desk.setEmbargo(0, 1000), BAD_VALUE);
        CHECK.due("published: not possible", desk.setEmbargo(0, 1), NOT_POSSIBLE);
        CHECK.due("published: not possible before none", desk.setEmbargo(0, 0), NOT_POSSIBLE);
        desk.kill(0);
        CHECK.due("killed: bad value", desk.setEmbargo(0, -1), BAD_VALUE);
        CHECK.due("killed: not possible before none", desk.setEmbargo(0, 0), NOT_POSSIBLE);
    }

    static void promise11_unknownBeforeNotPossibleBeforeFull() {
        EmbargoDesk desk = Scenes.full();
        CHECK.due("unknown", desk.correct(20), UNKNOWN);
        CHECK.due("full", desk.correct(0), FULL);
        desk.kill(0);
        CHECK.due("killed with 6: not possible", desk.correct(0), NOT_POSSIBLE);
        CHECK.due("one below: one more", desk.correct(1), 1);
        desk.kill(1);
        CHECK.due("killed with 1: not possible", desk.correct(1), NOT_POSSIBLE);
    }

    static void promise12_unknownBeforeNone() {
        EmbargoDesk desk = Scenes.oneKill();
        CHECK.due("unknown", desk.kill(1), UNKNOWN);
        CHECK.due("none", desk.kill(0), NONE);
    }

    static void promise13_badValueBeforeNotPossible() {
        EmbargoDesk desk = Scenes.late();
        CHECK.due("not possible", desk.pass(100), NOT_POSSIBLE);
        CHECK.due("bad value", desk.pass(101), BAD_VALUE);
        CHECK.due("bad value", desk.pass(0), BAD_VALUE);
        CHECK.due("bad value", desk.pass(Integer.MAX_VALUE), BAD_VALUE);
        CHECK.due("bad value", desk.pass(Integer.MIN_VALUE), BAD_VALUE);
    }

    static void promise19_unknownBeforeBadValue() {
        EmbargoDesk desk = Scenes.busy();
        CHECK.due("unknown", desk.story(6, 11), UNKNOWN);
        CHECK.due("unknown", desk.story(-1, -1), UNKNOWN);
        CHECK.due("bad value", desk.story(5, 11), BAD_VALUE);
    }

    static void promise20_unknownBeforeBadValueBeforeNone() {
        EmbargoDesk desk = Scenes.busy();
        CHECK.due("unknown, bad value", desk.byline(6, -1), UNKNOWN);
        CHECK.due("unknown, none", desk.byline(6, 3), UNKNOWN);
        CHECK.due("bad value", desk.byline(5, -1), BAD_VALUE);
        CHECK.due("none", desk.byline(5, 2), NONE);
    }

    static void promise21_unknownBeforeBadValueBeforeNone() {
        EmbargoDesk desk = Scenes.busy();
        CHECK.due("unknown, bad value", desk.slugChar(6, -1), UNKNOWN);
        CHECK.due("unknown, none", desk.slugChar(6, 12), UNKNOWN);
        CHECK.due("bad value", desk.slugChar(5, -1), BAD_VALUE);
        CHECK.due("none", desk.slugChar(5, 3), NONE);
    }

    static void promise22_unknownBeforeBadValueBeforeNone() {
        EmbargoDesk desk = Scenes.busy();
        CHECK.due("unknown, bad value", desk.correction(6, -1), UNKNOWN);
        CHECK.due("unknown, none", desk.correction(6, 6), UNKNOWN);
        CHECK.due("bad value", desk.correction(4, -1), BAD_VALUE);
        CHECK.due("none", desk.correction(4, 0), NONE);
    }

    static void promise23_unknownBeforeBadValue() {
        EmbargoDesk desk = Scenes.busy();
        CHECK.due("unknown", desk.client(3, 11), UNKNOWN);
        CHECK.due("unknown", desk.client(-1, -1), UNKNOWN);
        CHECK.due("bad value", desk.client(2, 11), BAD_VALUE);
    }

    static void promise24_unknownBeforeBadValue() {
        EmbargoDesk desk = Scenes.busy();
        CHECK.due("unknown", desk.person(10, 4), UNKNOWN);
        CHECK.due("unknown", desk.person(-1, -1), UNKNOWN);
        CHECK.due("bad value", desk.person(9, 4), BAD_VALUE);
    }

    static void promise25_unknownBeforeBadValue() {
        EmbargoDesk desk = Scenes.busy();
        CHECK.due("unknown story", desk.copy(6, 0, 9), UNKNOWN);
        CHECK.due("unknown client", desk.copy(0, 3, 9), UNKNOWN);
        CHECK.due("no such copy", desk.copy(4, 0, 9), UNKNOWN);
        CHECK.due("no such copy", desk.copy(1, 2, -1), UNKNOWN);
        CHECK.due("bad value", desk.copy(0, 2, 9), BAD_VALUE);
        CHECK.due("bad value before none", desk.copy(0, 2, -1), BAD_VALUE);
    }

    static void promise26_badValueBeforeNone() {
        EmbargoDesk desk = new EmbargoDesk();
        CHECK.due("bad value", desk.copyAt(-1), BAD_VALUE);
        CHECK.due("none", desk.copyAt(0), NONE);
    }

    static void promise27_unknownBeforeNone() {
        EmbargoDesk desk = Scenes.busy();
        CHECK.due("unknown story", desk.carriedIn(6, 0), UNKNOWN);
        CHECK.due("unknown client", desk.carriedIn(0, 3), UNKNOWN);
        CHECK.due("no such copy", desk.carriedIn(4, 0), UNKNOWN);
        CHECK.due("none: ended", desk.carriedIn(0, 0), NONE);
        CHECK.due("none: dropped", desk.carriedIn(0, 2), NONE);
        CHECK.due("none: withdrawn", desk.carriedIn(3, 0), NONE);
    }

    static void promise28_unknownBeforeBadValue() {
        EmbargoDesk desk = Scenes.busy();
        CHECK.due("unknown", desk.wouldCome(3, 0), UNKNOWN);
        CHECK.due("unknown", desk.wouldCome(-1, 101), UNKNOWN);
        CHECK.due("bad value", desk.wouldCome(2, 0), BAD_VALUE);
    }

    static void promise29_badValueBeforeNone() {
        EmbargoDesk desk = Scenes.busy();
        CHECK.due("both bad", desk.event(-1, 4), BAD_VALUE);
        CHECK.due("back is bad", desk.event(-1, 0), BAD_VALUE);
        CHECK.due("what is bad, and there is none", desk.event(12, 4), BAD_VALUE);
        CHECK.due("what is bad, and there is none", desk.event(12, -1), BAD_VALUE);
        CHECK.due("none", desk.event(12, 3), NONE);
        CHECK.due("there is one", desk.event(11, 3), 28);
    }
}
