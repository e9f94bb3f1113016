/** Promises 7 to 12: readStory, release, hold, setEmbargo, correct, kill. Faults of texts are in TextsTest. */
public final class StoriesTest {
    private static final Check CHECK = new Check("StoriesTest");

    public static void main(String[] args) {
        readStoryAddsStories();
        readStoryIsFullAtTwenty();
        readStoryForgetsWhatUndoLeft();
        releaseTellsClients();
        releaseRefuses();
        holdTellsHours();
        holdRefuses();
        setEmbargoChanges();
        setEmbargoRefuses();
        correctCounts();
        correctRefuses();
        killWhateverItIs();
        killRefuses();
        CHECK.end();
    }

    private static void readStoryAddsStories() {
        EmbargoDesk desk = new EmbargoDesk();
        CHECK.due("readStory", Desks.read(desk, "7 9,0,4 @105 zeta"), 0);
        CHECK.due("the text stays", desk.count(14), 17);
        CHECK.due("readStory again", desk.readStory(), 1);
        int[] told = {7, 3, 105, 0, 0, EmbargoDesk.NONE, EmbargoDesk.NONE, 4, 0, 0, 0};
        for (int story = 0; story < 2; story++) {
            for (int what = 0; what <= 10; what++) {
                CHECK.due("story(" + story + ", " + what + ")", desk.story(story, what), told[what]);
            }
            CHECK.due("first person", desk.byline(story, 0), 9);
            CHECK.due("second person", desk.byline(story, 1), 0);
            CHECK.due("third person", desk.byline(story, 2), 4);
        }
        CHECK.due("stories", desk.count(2), 2);
        CHECK.due("history", desk.count(13), 2);
    }

    private static void readStoryIsFullAtTwenty() {
        EmbargoDesk desk = new EmbargoDesk();
        Desks.type(desk, "0 1 @0 a");
        for (int story = 0; story < 20; story++) {
            CHECK.due("readStory " + story, desk.readStory(), story);
        }
        CHECK.due("a twenty-first", desk.readStory(), EmbargoDesk.FULL);
        desk.type('b');
        desk.kill(3);
        CHECK.due("a killed one makes no room", desk.readStory(), EmbargoDesk.FULL);
        desk.type('-');
        CHECK.due("the fault comes first", desk.readStory(), -109);
        CHECK.due("stories", desk.count(2), 20);
        CHECK.due("story 20", desk.story(20, 0), EmbargoDesk.UNKNOWN);
    }

    /** A story takes the place of another one that restore, or undo, took back: nothing of that one is left. */
    private static void readStoryForgetsWhatUndoLeft() {
        EmbargoDesk desk = new EmbargoDesk();
        desk.keep();
        Desks.release(desk, "5 1,2,3 @0 abcdef");
        desk.pass(1);
        desk.correct(0);
        desk.kill(0);
        desk.restore();
        CHECK.due("the story is gone", desk.count(2), 0);
        CHECK.due("nor is it told", desk.story(0, 0), EmbargoDesk.UNKNOWN);
        CHECK.due("another one in its place", Desks.read(desk, "1 4 @9 b"), 0);
        int[] told = {1, 1, 9, 0, 0, EmbargoDesk.NONE, EmbargoDesk.NONE, 1, 0, 0, 0};
        for (int what = 0; what <= 10; what++) {
            CHECK.due("story(0, " + what + ") of the other one", desk.story(0, what), told[what]);
        }
        CHECK.due("its first person", desk.byline(0, 0), 4);
        CHECK.due("its second person", desk.byline(0, 1), EmbargoDesk.NONE);
        CHECK.due("its first letter", desk.slugChar(0, 0), 'b');
        CHECK.due("its second letter", desk.slugChar(0, 1), EmbargoDesk.NONE);
        CHECK.due("its first correction", desk.correction(0, 0), EmbargoDesk.NONE);
        CHECK.due("persons in all bylines", desk.count(11), 1);
    }

    private static void releaseTellsClients() {
        EmbargoDesk desk = new EmbargoDesk();
        desk.addClient(128, 0, 0, 1, 0);
        desk.addClient(129, 0, 0, 1, 0);
        desk.addClient(127, 0, 0, 1, 0);
        desk.addClient(255, 48, 0, 1, 0);
        desk.setUp(3, false);
        Desks.read(desk, "7 1 @5 a");
        Desks.read(desk, "0 1 @5 a");
        Desks.read(desk, "3 1 @5 a");
        CHECK.due("topic 7", desk.release(0), 3);
        CHECK.due("topic 0", desk.release(1), 3);
        CHECK.due("topic 3", desk.release(2), 2);
        CHECK.due("state", desk.story(0, 3), 1);
        CHECK.due("no copy is made yet", desk.count(3), 0);
    }

    private static void releaseRefuses() {
        EmbargoDesk desk = new EmbargoDesk();
        CHECK.due("no story", desk.release(0), EmbargoDesk.UNKNOWN);
        Desks.read(desk, "7 1 @0 a");
        CHECK.due("negative story", desk.release(-1), EmbargoDesk.UNKNOWN);
        CHECK.due("story behind the last", desk.release(1), EmbargoDesk.UNKNOWN);
        CHECK.due("without clients", desk.release(0), 0);
        int history = desk.count(13);
        CHECK.due("released already", desk.release(0), EmbargoDesk.NOT_POSSIBLE);
        CHECK.due("history", desk.count(13), history);
        desk.pass(1);
        CHECK.due("published", desk.release(0), EmbargoDesk.NOT_POSSIBLE);
        desk.kill(0);
        CHECK.due("killed", desk.release(0), EmbargoDesk.NOT_POSSIBLE);
    }

    private static void holdTellsHours() {
        EmbargoDesk desk = new EmbargoDesk();
        Desks.read(desk, "7 1 @10 a");
        desk.pass(3);
        desk.release(0);
        CHECK.due("7 hours until", desk.hold(0), 7);
        CHECK.due("held", desk.story(0, 3), 0);
        desk.pass(7);
        CHECK.due("not published while held", desk.story(0, 3), 0);
        desk.release(0);
        CHECK.due("now", desk.hold(0), 0);
        desk.pass(1);
        desk.release(0);
        CHECK.due("over", desk.hold(0), 0);
    }

    private static void holdRefuses() {
        EmbargoDesk desk = new EmbargoDesk();
        CHECK.due("no story", desk.hold(0), EmbargoDesk.UNKNOWN);
        CHECK.due("negative story", desk.hold(-1), EmbargoDesk.UNKNOWN);
        Desks.read(desk, "7 1 @0 a");
        CHECK.due("held", desk.hold(0), EmbargoDesk.NOT_POSSIBLE);
        desk.release(0);
        desk.pass(1);
        CHECK.due("published", desk.hold(0), EmbargoDesk.NOT_POSSIBLE);
        desk.kill(0);
        CHECK.due("killed", desk.hold(0), EmbargoDesk.NOT_POSSIBLE);
    }

    private static void setEmbargoChanges() {
        EmbargoDesk desk = new EmbargoDesk();
        Desks.read(desk, "7 1 @10 a");
        CHECK.due("of a held one", desk.setEmbargo(0, 999), 10);
        CHECK.due("embargo", desk.story(0, 2), 999);
        desk.release(0);
        CHECK.due("of a released one", desk.setEmbargo(0, 0), 999);
        CHECK.due("it is not published at once", desk.story(0, 3), 1);
        desk.pass(1);
        CHECK.due("but with the next hour", desk.story(0, 5), 1);
    }

    private static void setEmbargoRefuses() {
        EmbargoDesk desk = new EmbargoDesk();
        CHECK.due("unknown, bad value", desk.setEmbargo(0, 1000), EmbargoDesk.UNKNOWN);
        Desks.read(desk, "7 1 @10 a");
        CHECK.due("hour 1000", desk.setEmbargo(0, 1000), EmbargoDesk.BAD_VALUE);
        CHECK.due("hour -1", desk.setEmbargo(0, -1), EmbargoDesk.BAD_VALUE);
        CHECK.due("the same", desk.setEmbargo(0, 10), EmbargoDesk.NONE);
        CHECK.due("history", desk.count(13), 1);
        desk.release(0);
        desk.pass(10);
        CHECK.due("published, the same", desk.setEmbargo(0, 10), EmbargoDesk.NOT_POSSIBLE);
        CHECK.due("published, bad value", desk.setEmbargo(0, 1000), EmbargoDesk.BAD_VALUE);
        desk.kill(0);
        CHECK.due("killed", desk.setEmbargo(0, 11), EmbargoDesk.NOT_POSSIBLE);
        CHECK.due("negative story", desk.setEmbargo(-1, 11), EmbargoDesk.UNKNOWN);
    }

    private static void correctCounts() {
        EmbargoDesk desk = Desks.withCopyInUse(24, 0);
        for (int k = 0; k < 6; k++) {
            CHECK.due("correct", desk.correct(0), k + 1);
            CHECK.due("hour", desk.correction(0, k), 1 + 2 * k);
            desk.pass(2);
        }
        CHECK.due("version", desk.story(0, 4), 6);
        int history = desk.count(13);
        CHECK.due("a seventh", desk.correct(0), EmbargoDesk.FULL);
        CHECK.due("version then", desk.story(0, 4), 6);
        CHECK.due("history", desk.count(13), history);
        desk.kill(0);
        CHECK.due("killed with 6", desk.correct(0), EmbargoDesk.NOT_POSSIBLE);
    }

    private static void correctRefuses() {
        EmbargoDesk desk = new EmbargoDesk();
        CHECK.due("no story", desk.correct(0), EmbargoDesk.UNKNOWN);
        CHECK.due("negative story", desk.correct(-1), EmbargoDesk.UNKNOWN);
        Desks.read(desk, "7 1 @0 a");
        CHECK.due("held", desk.correct(0), EmbargoDesk.NOT_POSSIBLE);
        desk.release(0);
        CHECK.due("released", desk.correct(0), EmbargoDesk.NOT_POSSIBLE);
        CHECK.due("no correction", desk.correction(0, 0), EmbargoDesk.NONE);
    }

    private static void killWhateverItIs() {
        EmbargoDesk desk = new EmbargoDesk();
        desk.addClient(255, 0, 0, 9, 0);
        desk.addClient(255, 0, 0, 9, 0);
        desk.addClient(255, 9, 0, 9, 0);
        Desks.read(desk, "7 1 @0 a");
        Desks.release(desk, "7 1 @0 a");
        Desks.release(desk, "7 1 @5 a");
        desk.pass(4);
        desk.correct(1);
        CHECK.due("held", desk.kill(0), 0);
        CHECK.due("released", desk.kill(2), 0);
        CHECK.due("published, a copy is planned yet", desk.kill(1), 2);
        for (int story = 0; story < 3; story++) {
            CHECK.due("state", desk.story(story, 3), 3);
            CHECK.due("killed at", desk.story(story, 6), 4);
        }
        CHECK.due("published at", desk.story(1, 5), 1);
        CHECK.due("version as it was", desk.story(1, 4), 1);
        CHECK.due("never published", desk.story(2, 5), EmbargoDesk.NONE);
        CHECK.due("copies in use wait for the next hour", desk.count(5), 2);
        desk.pass(3);
        CHECK.due("a killed one is not published", desk.story(2, 5), EmbargoDesk.NONE);
        CHECK.due("copies of it", desk.story(2, 8), 0);
    }

    private static void killRefuses() {
        EmbargoDesk desk = new EmbargoDesk();
        CHECK.due("no story", desk.kill(0), EmbargoDesk.UNKNOWN);
        CHECK.due("negative story", desk.kill(-1), EmbargoDesk.UNKNOWN);
        Desks.read(desk, "7 1 @0 a");
        desk.kill(0);
        desk.pass(1);
        int history = desk.count(13);
        CHECK.due("killed already", desk.kill(0), EmbargoDesk.NONE);
        CHECK.due("killed at", desk.story(0, 6), 0);
        CHECK.due("history", desk.count(13), history);
    }
}
