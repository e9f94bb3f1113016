/** Each emptiness: no client, no story, no copy, an empty text, an empty history, no snapshot, an empty log. */
public final class EmptyTest {
    private static final int UNKNOWN = EmbargoDesk.UNKNOWN;
    private static final int BAD_VALUE = EmbargoDesk.BAD_VALUE;
    private static final int NONE = EmbargoDesk.NONE;

    private static final Check CHECK = new Check("EmptyTest");

    public static void main(String[] args) throws IllegalAccessException {
        CHECK.allPromises(EmptyTest.class);
    }

    private static EmbargoDesk withStory() {
        EmbargoDesk desk = new EmbargoDesk();
        Desks.release(desk, "0 1 @0 a");
        return desk;
    }

    // ---- a new object

    static void promise01_withoutStoriesAndClientsAtTheHour0() {
        EmbargoDesk desk = new EmbargoDesk();
        CHECK.due("hour", desk.count(0), 0);
        CHECK.due("clients", desk.count(1), 0);
        CHECK.due("stories", desk.count(2), 0);
        CHECK.due("copies", desk.count(3), 0);
        CHECK.due("days of use", desk.count(12), 3);
        CHECK.due("states", desk.count(13), 0);
        CHECK.due("length of the text", desk.count(14), 0);
    }

    static void promise01_eachObjectIsNew() {
        Scenes.busy();
        String difference = Twins.difference(EmbargoDesk::new, () -> {
            Scenes.full();
            return new EmbargoDesk();
        });
        CHECK.holds("nothing is left of another object " + difference, difference.isEmpty());
    }

    // ---- no client

    static void promise03_noClient() {
        CHECK.due("setTopics", withStory().setTopics(0, 1), UNKNOWN);
    }

    static void promise04_noClient() {
        CHECK.due("setUp", withStory().setUp(0, true), UNKNOWN);
        CHECK.due("setUp", withStory().setUp(0, false), UNKNOWN);
    }

    static void promise05_noClient() {
        CHECK.due("setUse", new EmbargoDesk().setUse(4), 3);
    }

    static void promise06_noClient() {
        CHECK.due("pay", withStory().pay(0, 1), UNKNOWN);
    }

    static void promise08_noClient() {
        EmbargoDesk desk = new EmbargoDesk();
        Desks.read(desk, "0 1 @0 a");
        CHECK.due("release", desk.release(0), 0);
    }

    static void promise12_noClient() {
        CHECK.due("kill", withStory().kill(0), 0);
    }

    static void promise13_noClient() {
        EmbargoDesk desk = withStory();
        CHECK.due("pass", desk.pass(100), 0);
        CHECK.due("published all the same", desk.story(0, 5), 1);
        CHECK.due("copies", desk.count(3), 0);
        CHECK.due("copies of it", desk.story(0, 8), 0);
    }

    static void promise11_noClient() {
        EmbargoDesk desk = withStory();
        desk.pass(1);
        CHECK.due("correct", desk.correct(0), 1);
    }

    static void promise23_noClient() {
        EmbargoDesk desk = withStory();
        for (int what = -1; what <= 11; what++) {
            CHECK.due("client(0, " + what + ")", desk.client(0, what), UNKNOWN);
        }
    }

    static void promise25_noClient() {
        CHECK.due("copy", withStory().copy(0, 0, 0), UNKNOWN);
    }

    static void promise27_noClient() {
        CHECK.due("carriedIn", withStory().carriedIn(0, 0), UNKNOWN);
    }

    static void promise28_noClient() {
        CHECK.due("wouldCome", withStory().wouldCome(0, 1), UNKNOWN);
    }

    // ---- no story

    static void promises08to12_noStory() {
        EmbargoDesk desk = Scenes.oneClient(0, 0, 0);
        CHECK.due("release", desk.release(0), UNKNOWN);
        CHECK.due("hold", desk.hold(0), UNKNOWN);
        CHECK.due("setEmbargo", desk.setEmbargo(0, 0), UNKNOWN);
        CHECK.due("correct", desk.correct(0), UNKNOWN);
        CHECK.due("kill", desk.kill(0), UNKNOWN);
    }

    static void promise13_noStory() {
        EmbargoDesk desk = Scenes.oneClient(0, 0, 0);
        CHECK.due("pass", desk.pass(100), 0);
        CHECK.due("copies", desk.count(3), 0);
        CHECK.due("events", desk.event(0, 0), NONE);
    }

    static void promise13_nothingAtAll() {
        EmbargoDesk desk = new EmbargoDesk();
        CHECK.due("pass", desk.pass(1), 0);
        CHECK.due("hour", desk.count(0), 1);
    }

    static void promises19to22_noStory() {
        EmbargoDesk desk = Scenes.oneClient(0, 0, 0);
        for (int what = -1; what <= 11; what++) {
            CHECK.due("story(0, " + what + ")", desk.story(0, what), UNKNOWN);
            CHECK.due("byline(0, " + what + ")", desk.byline(0, what), UNKNOWN);
            CHECK.due("slugChar(0, " + what + ")", desk.slugChar(0, what), UNKNOWN);
            CHECK.due("correction(0, " + what + ")", desk.correction(0, what), UNKNOWN);
        }
    }

    static void promise24_noStory() {
        EmbargoDesk desk = new EmbargoDesk();
        for (int person = 0; person < 10; person++) {
            for (int what = 0; what <= 3; what++) {
                CHECK.due("person(" + person + ", " + what + ")", desk.person(person, what), 0);
            }
        }
    }

    static void promise28_noStory() {
        CHECK.due("wouldCome", Scenes.oneClient(0, 0, 0).wouldCome(0, 100), 0);
    }

    // ---- no copy

    static void promise04_noCopy() {
        CHECK.due("setUp", Scenes.oneClient(0, 0, 0).setUp(0, false), 0);
    }

    static void promise25_noCopy() {
        EmbargoDesk desk = Scenes.oneClient(0, 0, 0);
        Desks.read(desk, "0 1 @0 a");
        for (int what = -1; what <= 9; what++) {
            CHECK.due("copy(0, 0, " + what + ")", desk.copy(0, 0, what), UNKNOWN);
        }
    }

    static void promise26_noCopy() {
        EmbargoDesk desk = withStory();
        CHECK.due("copyAt(0)", desk.copyAt(0), NONE);
        CHECK.due("copyAt(-1)", desk.copyAt(-1), BAD_VALUE);
    }

    static void promise27_noCopy() {
        EmbargoDesk desk = Scenes.oneClient(0, 0, 0);
        Desks.release(desk, "0 1 @0 a");
        CHECK.due("carriedIn of a story that is published in an hour", desk.carriedIn(0, 0), UNKNOWN);
    }

    // ---- no correction

    static void promise22_noCorrection() {
        EmbargoDesk desk = withStory();
        CHECK.due("correction(0, 0)", desk.correction(0, 0), NONE);
        CHECK.due("correction(0, -1)", desk.correction(0, -1), BAD_VALUE);
        desk.pass(1);
        CHECK.due("correction(0, 0) of a published one", desk.correction(0, 0), NONE);
    }

    static void promise19_neverPublished() {
        EmbargoDesk desk = withStory();
        CHECK.due("version", desk.story(0, 4), 0);
        CHECK.due("published at", desk.story(0, 5), NONE);
        CHECK.due("killed at", desk.story(0, 6), NONE);
        for (int what = 8; what <= 10; what++) {
            CHECK.due("story(0, " + what + ")", desk.story(0, what), 0);
        }
    }

    // ---- an empty text

    static void promise07_emptyText() {
        EmbargoDesk desk = new EmbargoDesk();
        CHECK.due("readStory", desk.readStory(), -100);
        CHECK.due("stories", desk.count(2), 0);
        Desks.type(desk, "0 1 @0 a");
        desk.clearText();
        CHECK.due("readStory of a text that was emptied", desk.readStory(), -100);
    }

    static void promise15_emptyText() {
        EmbargoDesk desk = new EmbargoDesk();
        CHECK.due("clearText", desk.clearText(), 0);
        CHECK.due("clearText again", desk.clearText(), 0);
        CHECK.due("the first character", desk.type('0'), 1);
    }

    // ---- an empty history

    static void promise16_emptyHistory() {
        EmbargoDesk desk = new EmbargoDesk();
        CHECK.due("undo", desk.undo(), NONE);
        CHECK.due("undo again", desk.undo(), NONE);
        desk.pass(1);
        CHECK.due("undo of the one act", desk.undo(), 0);
        CHECK.due("undo of nothing", desk.undo(), NONE);
        CHECK.due("hour", desk.count(0), 0);
        desk.pass(2);
        CHECK.due("states", desk.count(13), 1);
    }

    static void promise16_textsAndKeepAreNoActs() {
        EmbargoDesk desk = new EmbargoDesk();
        Desks.type(desk, "0 1 @0 a");
        desk.keep();
        desk.clearText();
        CHECK.due("states", desk.count(13), 0);
        CHECK.due("undo", desk.undo(), NONE);
    }

    static void promise16_undoIsNoAct() {
        EmbargoDesk desk = new EmbargoDesk();
        desk.pass(1);
        desk.pass(1);
        desk.undo();
        CHECK.due("states", desk.count(13), 1);
        CHECK.due("undo", desk.undo(), 0);
        CHECK.due("hour", desk.count(0), 0);
    }

    // ---- no snapshot

    static void promise18_noSnapshot() {
        EmbargoDesk desk = new EmbargoDesk();
        CHECK.due("restore", desk.restore(), NONE);
        CHECK.due("states", desk.count(13), 0);
        desk.pass(5);
        CHECK.due("restore", desk.restore(), NONE);
        CHECK.due("hour", desk.count(0), 5);
        CHECK.due("states", desk.count(13), 1);
    }

    static void promise17_snapshotOfAnEmptyDesk() {
        EmbargoDesk desk = new EmbargoDesk();
        CHECK.due("keep", desk.keep(), 0);
        desk.addClient(1, 0, 0, 1, 0);
        Desks.release(desk, "0 1 @0 a");
        desk.pass(5);
        CHECK.due("restore", desk.restore(), 0);
        CHECK.due("clients", desk.count(1), 0);
        CHECK.due("stories", desk.count(2), 0);
        CHECK.due("copies", desk.count(3), 0);
        CHECK.due("events", desk.event(0, 0), NONE);
        CHECK.due("the text stays", desk.count(14), 8);
    }

    static void promise18_restoreOfTheSameStateIsAnAct() {
        EmbargoDesk desk = new EmbargoDesk();
        desk.keep();
        CHECK.due("restore", desk.restore(), 0);
        CHECK.due("states", desk.count(13), 1);
        CHECK.due("restore again", desk.restore(), 0);
        CHECK.due("states", desk.count(13), 2);
    }

    static void promise16_undoOfAllLeavesTheSnapshot() {
        EmbargoDesk desk = new EmbargoDesk();
        desk.pass(3);
        desk.keep();
        CHECK.due("undo", desk.undo(), 0);
        CHECK.due("hour", desk.count(0), 0);
        CHECK.due("restore", desk.restore(), 3);
    }

    static void promise17_keepLeavesTheHistory() {
        EmbargoDesk desk = new EmbargoDesk();
        desk.pass(3);
        CHECK.due("keep", desk.keep(), 3);
        CHECK.due("keep again", desk.keep(), 3);
        CHECK.due("states", desk.count(13), 1);
        CHECK.due("undo", desk.undo(), 0);
        CHECK.due("hour", desk.count(0), 0);
    }

    // ---- an empty log

    static void promise29_emptyLog() {
        EmbargoDesk desk = new EmbargoDesk();
        for (int what = 0; what <= 3; what++) {
            CHECK.due("event(0, " + what + ")", desk.event(0, what), NONE);
            CHECK.due("event(11, " + what + ")", desk.event(11, what), NONE);
            CHECK.due("event(12, " + what + ")", desk.event(12, what), NONE);
            CHECK.due("event(-1, " + what + ")", desk.event(-1, what), BAD_VALUE);
        }
        CHECK.due("event(0, -1)", desk.event(0, -1), BAD_VALUE);
        CHECK.due("event(0, 4)", desk.event(0, 4), BAD_VALUE);
    }

    static void promise29_whatIsNoEvent() {
        EmbargoDesk desk = Scenes.oneClient(9, 0, 0);
        Desks.release(desk, "0 1 @9 a");
        desk.hold(0);
        desk.setEmbargo(0, 3);
        desk.setTopics(0, 1);
        desk.setUp(0, false);
        desk.setUse(1);
        desk.pass(2);
        desk.keep();
        desk.restore();
        CHECK.due("no event", desk.event(0, 0), NONE);
    }
}
