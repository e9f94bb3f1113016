/** Promises 2 to 6: addClient, setTopics, setUp, setUse, pay. */
public final class ClientsTest {
    private static final int MOST = Integer.MAX_VALUE;
    private static final int LEAST = Integer.MIN_VALUE;

    private static final Check CHECK = new Check("ClientsTest");

    public static void main(String[] args) {
        addClientKeepsWhatItIsGiven();
        addClientRefuses();
        addClientIsFullAtEight();
        addClientGetsNoOldStories();
        addClientForgetsWhatRestoreTookBack();
        setTopicsCountsForLaterStories();
        setTopicsRefuses();
        setUpTellsOpenCopies();
        setUpRefuses();
        setUseCountsAtOnce();
        setUseRefuses();
        payLowersWhatIsOwed();
        payRefuses();
        CHECK.end();
    }

    private static void addClientKeepsWhatItIsGiven() {
        EmbargoDesk desk = new EmbargoDesk();
        CHECK.due("addClient least", desk.addClient(1, 0, 0, 1, 0), 0);
        CHECK.due("addClient most", desk.addClient(255, 48, 24, 9, 2000000000), 1);
        int[] least = {1, 0, 0, 1, 0, 1, 0, 0, 0, 0, 0};
        int[] most = {255, 48, 24, 9, 2000000000, 1, 0, 0, 0, 0, 0};
        for (int what = 0; what <= 10; what++) {
            CHECK.due("client(0, " + what + ")", desk.client(0, what), least[what]);
            CHECK.due("client(1, " + what + ")", desk.client(1, what), most[what]);
        }
        CHECK.due("clients", desk.count(1), 2);
        CHECK.due("states in the history", desk.count(13), 2);
    }

    private static void addClientRefuses() {
        EmbargoDesk desk = new EmbargoDesk();
        int[][] bad = {{0, 0, 0, 1, 0}, {256, 0, 0, 1, 0}, {-1, 0, 0, 1, 0}, {1, -1, 0, 1, 0}, {1, 49, 0, 1, 0},
            {1, 0, -1, 1, 0}, {1, 0, 25, 1, 0}, {1, 0, 0, 0, 0}, {1, 0, 0, 10, 0}, {1, 0, 0, 1, -1},
            {1, 0, 0, 1, 2000000001}, {LEAST, LEAST, LEAST, LEAST, LEAST}, {MOST, MOST, MOST, MOST, MOST}};
        for (int[] row : bad) {
            CHECK.due("addClient " + java.util.Arrays.toString(row),
                desk.addClient(row[0], row[1], row[2], row[3], row[4]), EmbargoDesk.BAD_VALUE);
        }
        CHECK.due("clients after bad values", desk.count(1), 0);
        CHECK.due("history after bad values", desk.count(13), 0);
    }

    private static void addClientIsFullAtEight() {
        EmbargoDesk desk = new EmbargoDesk();
        for (int number = 0; number < 8; number++) {
            CHECK.due("addClient " + number, desk.addClient(1 + number, 0, 0, 1, 0), number);
        }
        CHECK.due("a ninth client", desk.addClient(1, 0, 0, 1, 0), EmbargoDesk.FULL);
        CHECK.due("a bad ninth client", desk.addClient(0, 0, 0, 1, 0), EmbargoDesk.BAD_VALUE);
        CHECK.due("clients", desk.count(1), 8);
        CHECK.due("topics of the eighth", desk.client(7, 0), 8);
    }

    private static void addClientGetsNoOldStories() {
        EmbargoDesk desk = Desks.withCopyInUse(0, 0);
        desk.addClient(255, 0, 0, 9, 0);
        desk.pass(2);
        CHECK.due("copy for a later client", desk.copy(0, 1, 0), EmbargoDesk.UNKNOWN);
        CHECK.due("copies", desk.count(3), 1);
    }

    private static void addClientForgetsWhatRestoreTookBack() {
        EmbargoDesk desk = new EmbargoDesk();
        desk.keep();
        desk.addClient(255, 1, 2, 3, 2000000000);
        Desks.release(desk, "0 1 @0 a");
        Desks.release(desk, "0 1 @0 a");
        desk.pass(2);
        desk.setUp(0, false);
        CHECK.due("it was busy", desk.client(0, 10), 1);
        desk.restore();
        CHECK.due("it is gone", desk.client(0, 0), EmbargoDesk.UNKNOWN);
        CHECK.due("another one in its place", desk.addClient(7, 6, 5, 4, 3), 0);
        int[] told = {7, 6, 5, 4, 3, 1, 0, 0, 0, 0, 0};
        for (int what = 0; what <= 10; what++) {
            CHECK.due("client(0, " + what + ") of the other one", desk.client(0, what), told[what]);
        }
    }

    private static void setTopicsCountsForLaterStories() {
        EmbargoDesk desk = new EmbargoDesk();
        desk.addClient(1, 5, 0, 9, 0);
        Desks.release(desk, "0 1 @0 a");
        Desks.release(desk, "1 1 @2 b");
        Desks.release(desk, "0 1 @2 c");
        desk.pass(1);
        CHECK.due("setTopics", desk.setTopics(0, 2), 1);
        CHECK.due("topics then", desk.client(0, 0), 2);
        CHECK.due("the planned copy stays", desk.copy(0, 0, 0), 0);
        CHECK.due("setTopics again", desk.setTopics(0, 2), EmbargoDesk.NONE);
        desk.pass(1);
        CHECK.due("copy of the new topic", desk.copy(1, 0, 0), 0);
        CHECK.due("no copy of the old topic", desk.copy(2, 0, 0), EmbargoDesk.UNKNOWN);
        desk.pass(4);
        CHECK.due("the planned copy came", desk.copy(0, 0, 0), 1);
        CHECK.due("setTopics to all", desk.setTopics(0, 255), 2);
        CHECK.due("setTopics to the least", desk.setTopics(0, 1), 255);
    }

    private static void setTopicsRefuses() {
        EmbargoDesk desk = new EmbargoDesk();
        desk.addClient(1, 0, 0, 1, 0);
        CHECK.due("unknown, bad value", desk.setTopics(1, 0), EmbargoDesk.UNKNOWN);
        CHECK.due("negative client", desk.setTopics(-1, 1), EmbargoDesk.UNKNOWN);
        CHECK.due("least client", desk.setTopics(LEAST, 1), EmbargoDesk.UNKNOWN);
        CHECK.due("most client", desk.setTopics(MOST, 1), EmbargoDesk.UNKNOWN);
        CHECK.due("topics 0", desk.setTopics(0, 0), EmbargoDesk.BAD_VALUE);
        CHECK.due("topics 256", desk.setTopics(0, 256), EmbargoDesk.BAD_VALUE);
        CHECK.due("topics -1", desk.setTopics(0, -1), EmbargoDesk.BAD_VALUE);
        CHECK.due("the same", desk.setTopics(0, 1), EmbargoDesk.NONE);
        CHECK.due("history", desk.count(13), 1);
    }

    private static void setUpTellsOpenCopies() {
        EmbargoDesk desk = new EmbargoDesk();
        desk.addClient(255, 0, 0, 2, 0);
        desk.addClient(255, 0, 0, 9, 0);
        for (int story = 0; story < 4; story++) {
            Desks.release(desk, "0 1 @0 a");
        }
        desk.pass(1);
        CHECK.due("down: two in use, two planned", desk.setUp(0, false), 4);
        CHECK.due("is up", desk.client(0, 5), 0);
        CHECK.due("down again", desk.setUp(0, false), EmbargoDesk.NONE);
        desk.kill(3);
        desk.pass(1);
        CHECK.due("the killed story's planned copy is dropped, though down", desk.copy(3, 0, 0), 4);
        CHECK.due("up", desk.setUp(0, true), 3);
        CHECK.due("is up then", desk.client(0, 5), 1);
        CHECK.due("the other is up all along", desk.client(1, 5), 1);
        CHECK.due("up again", desk.setUp(0, true), EmbargoDesk.NONE);
    }

    private static void setUpRefuses() {
        EmbargoDesk desk = new EmbargoDesk();
        CHECK.due("no client", desk.setUp(0, true), EmbargoDesk.UNKNOWN);
        CHECK.due("negative client", desk.setUp(-1, false), EmbargoDesk.UNKNOWN);
        desk.addClient(1, 0, 0, 1, 0);
        CHECK.due("a client is up at first", desk.setUp(0, true), EmbargoDesk.NONE);
        CHECK.due("without copies", desk.setUp(0, false), 0);
        CHECK.due("client behind the last", desk.setUp(1, false), EmbargoDesk.UNKNOWN);
        CHECK.due("history", desk.count(13), 2);
    }

    private static void setUseCountsAtOnce() {
        EmbargoDesk desk = Desks.withCopyInUse(0, 0);
        CHECK.due("end at first", desk.copy(0, 0, 8), 1 + 72);
        CHECK.due("setUse 9", desk.setUse(9), 3);
        CHECK.due("end then", desk.copy(0, 0, 8), 1 + 216);
        CHECK.due("days", desk.count(12), 9);
        desk.pass(50);
        CHECK.due("setUse 2", desk.setUse(2), 9);
        CHECK.due("end is over", desk.copy(0, 0, 8), 49);
        CHECK.due("still in use until the next hour", desk.copy(0, 0, 0), 1);
        desk.pass(1);
        CHECK.due("ended", desk.copy(0, 0, 0), 3);
        CHECK.due("setUse 1", desk.setUse(1), 2);
    }

    private static void setUseRefuses() {
        EmbargoDesk desk = new EmbargoDesk();
        CHECK.due("0 days", desk.setUse(0), EmbargoDesk.BAD_VALUE);
        CHECK.due("10 days", desk.setUse(10), EmbargoDesk.BAD_VALUE);
        CHECK.due("-1 days", desk.setUse(-1), EmbargoDesk.BAD_VALUE);
        CHECK.due("least days", desk.setUse(LEAST), EmbargoDesk.BAD_VALUE);
        CHECK.due("the same", desk.setUse(3), EmbargoDesk.NONE);
        CHECK.due("history", desk.count(13), 0);
    }

    private static void payLowersWhatIsOwed() {
        EmbargoDesk desk = Desks.withCopyInUse(0, 2000000000);
        CHECK.due("pay 1", desk.pay(0, 1), 1999999999);
        CHECK.due("owes", desk.client(0, 6), 1999999999);
        CHECK.due("pay more than owed", desk.pay(0, 2000000000), EmbargoDesk.NOT_POSSIBLE);
        CHECK.due("pay all", desk.pay(0, 1999999999), 0);
        CHECK.due("pay when nothing is owed", desk.pay(0, 1), EmbargoDesk.NOT_POSSIBLE);
        CHECK.due("what a person got stays", desk.person(1, 0), 2000000000);
    }

    private static void payRefuses() {
        EmbargoDesk desk = Desks.withCopyInUse(0, 2000000000);
        int history = desk.count(13);
        CHECK.due("unknown, bad value", desk.pay(1, 0), EmbargoDesk.UNKNOWN);
        CHECK.due("negative client", desk.pay(-1, 1), EmbargoDesk.UNKNOWN);
        CHECK.due("0 cents", desk.pay(0, 0), EmbargoDesk.BAD_VALUE);
        CHECK.due("-1 cents", desk.pay(0, -1), EmbargoDesk.BAD_VALUE);
        CHECK.due("least cents", desk.pay(0, LEAST), EmbargoDesk.BAD_VALUE);
        CHECK.due("2000000001 cents", desk.pay(0, 2000000001), EmbargoDesk.BAD_VALUE);
        CHECK.due("history", desk.count(13), history);
        CHECK.due("2000000000 cents", desk.pay(0, 2000000000), 0);
    }
}
