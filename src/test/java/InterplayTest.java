import java.util.List;
import java.util.function.Supplier;
import java.util.function.ToIntFunction;

/** What calls do to one another: runs of several acts, whose answers are worked out from the document by hand. */
public final class InterplayTest {
    private static final int UNKNOWN = EmbargoDesk.UNKNOWN;
    private static final int NOT_POSSIBLE = EmbargoDesk.NOT_POSSIBLE;
    private static final int NONE = EmbargoDesk.NONE;

    private static final int PLANNED = 0;
    private static final int IN_USE = 1;
    private static final int WITHDRAWN = 2;
    private static final int ENDED = 3;
    private static final int DROPPED = 4;

    private static final Check CHECK = new Check("InterplayTest");

    public static void main(String[] args) throws IllegalAccessException {
        CHECK.allPromises(InterplayTest.class);
    }

    private static void event(EmbargoDesk desk, int back, int kind, int story, int client, int hour) {
        int[] due = {kind, story, client, hour};
        for (int what = 0; what < due.length; what++) {
            CHECK.due("event(" + back + ", " + what + ")", desk.event(back, what), due[what]);
        }
    }

    private static void copyTells(EmbargoDesk desk, int story, int client, int... due) {
        for (int what = 0; what < due.length; what++) {
            CHECK.due("hour " + desk.count(0) + ": copy(" + story + ", " + client + ", " + what + ")",
                desk.copy(story, client, what), due[what]);
        }
    }

    /** The states of the copies of story 0, by client. */
    private static void statesAre(EmbargoDesk desk, int... due) {
        for (int client = 0; client < due.length; client++) {
            CHECK.due("hour " + desk.count(0) + ": state of the copy of client " + client, desk.copy(0, client, 0),
                due[client]);
        }
    }

    // ---- a client that is down for some hours and up again

    /** Story 0 is in use since hour 1; story 1 is published at hour 3, when the client is down. */
    private static EmbargoDesk downForSomeHours() {
        EmbargoDesk desk = Scenes.oneClient(0, 2, 5);
        Desks.release(desk, "0 1 @0 a");
        Desks.release(desk, "0 2 @3 b");
        desk.pass(1);
        CHECK.due("planned or in use before story 1 is published", desk.setUp(0, false), 1);
        desk.correct(0);
        CHECK.due("nothing comes", desk.pass(3), 0);
        desk.correct(0);
        desk.correct(1);
        return desk;
    }

    static void promise04_whatIsToldWhileAClientIsDown() {
        EmbargoDesk desk = downForSomeHours();
        copyTells(desk, 0, 0, IN_USE, 1, 1, 0, 2, 1, 3, NONE, 73);
        copyTells(desk, 1, 0, PLANNED, 3, NONE, NONE, 0, 0, NONE, NONE, NONE);
        CHECK.due("copies with corrections that are due", desk.count(9), 1);
        CHECK.due("nothing would come", desk.wouldCome(0, 100), 0);
        CHECK.due("no correction would come", desk.carriedIn(0, 0), NONE);
        CHECK.due("the planned one would not come", desk.carriedIn(1, 0), NONE);
        desk.pass(3);
        copyTells(desk, 0, 0, IN_USE, 1, 1, 0, 2, 2, 3, NONE, 73);
        CHECK.due("both are due of one copy", desk.count(9), 1);
    }

    static void promise04_allComesInTheHourAfterItIsUpAgain() {
        EmbargoDesk desk = downForSomeHours();
        desk.pass(3);
        CHECK.due("planned or in use", desk.setUp(0, true), 2);
        CHECK.due("an hour until the corrections", desk.carriedIn(0, 0), 1);
        CHECK.due("an hour until the copy", desk.carriedIn(1, 0), 1);
        CHECK.due("one would come", desk.wouldCome(0, 1), 1);
        CHECK.due("one comes", desk.pass(1), 1);
        event(desk, 2, 2, 0, 0, 8);
        event(desk, 1, 2, 0, 0, 8);
        event(desk, 0, 1, 1, 0, 8);
        copyTells(desk, 0, 0, IN_USE, 1, 1, 2, 0, 0, NONE, NONE, 73);
        copyTells(desk, 1, 0, IN_USE, 3, 8, 1, 0, 0, NONE, NONE, 80);
        CHECK.due("corrections that copies got", desk.count(10), 2);
        CHECK.due("owes for both", desk.client(0, 6), 10);
        CHECK.due("person 2 has got", desk.person(2, 0), 5);
    }

    /** The second correction is not due yet when the client is up again. */
    static void promise04_onlyWhatIsDueComes() {
        EmbargoDesk desk = downForSomeHours();
        CHECK.due("planned or in use", desk.setUp(0, true), 2);
        CHECK.due("until the second one", desk.carriedIn(0, 0), 2);
        desk.pass(1);
        copyTells(desk, 0, 0, IN_USE, 1, 1, 1, 1, 0, 6, NONE, 73);
        desk.pass(1);
        copyTells(desk, 0, 0, IN_USE, 1, 1, 2, 0, 0, NONE, NONE, 73);
    }

    static void promise04_theUseEndsWhileItIsDown() {
        EmbargoDesk desk = downForSomeHours();
        desk.pass(68);
        copyTells(desk, 0, 0, IN_USE, 1, 1, 0, 2, 2, 3, NONE, 73);
        desk.pass(1);
        copyTells(desk, 0, 0, ENDED, 1, 1, 0, 0, 0, NONE, NONE, NONE);
        event(desk, 0, 4, 0, 0, 73);
        CHECK.due("no corrections are due", desk.count(9), 0);
        CHECK.due("only the planned one", desk.setUp(0, true), 1);
        CHECK.due("an ended one carries nothing", desk.carriedIn(0, 0), NONE);
        CHECK.due("the planned one comes", desk.pass(1), 1);
        copyTells(desk, 0, 0, ENDED, 1, 1, 0);
    }

    static void promise04_downOverTheEndOfADay() {
        EmbargoDesk desk = new EmbargoDesk();
        desk.addClient(255, 0, 0, 1, 0);
        for (int story = 0; story < 3; story++) {
            Desks.release(desk, "0 1 @0 a");
        }
        CHECK.due("one a day", desk.pass(1), 1);
        desk.setUp(0, false);
        CHECK.due("none", desk.pass(30), 0);
        CHECK.due("none on this day", desk.client(0, 7), 0);
        CHECK.due("planned or in use", desk.setUp(0, true), 3);
        CHECK.due("until hour 47", desk.wouldCome(0, 16), 1);
        CHECK.due("until hour 48", desk.wouldCome(0, 17), 2);
        CHECK.due("hour 32", desk.pass(1), 1);
        CHECK.due("until hour 47", desk.pass(15), 0);
        CHECK.due("hour 48", desk.pass(1), 1);
        CHECK.due("on this day", desk.client(0, 7), 1);
        CHECK.due("of all days", desk.client(0, 8), 3);
    }

    static void promise16_undoOfDownAndUp() {
        EmbargoDesk desk = downForSomeHours();
        for (int left = 3; left >= 0; left--) {
            CHECK.due("undo", desk.undo(), left);
        }
        CHECK.due("hour", desk.count(0), 1);
        CHECK.due("down still: its setUp is not the latest of four acts", desk.client(0, 5), 0);
        CHECK.due("not corrected", desk.story(0, 4), 0);
        desk.setUp(0, true);
        CHECK.due("story 1 comes when it is published", desk.pass(2), 1);
        copyTells(desk, 1, 0, IN_USE, 3, 3, 0, 0, 0, NONE, NONE, 75);
    }

    // ---- a story that is killed while copies of it are planned, in use, ended

    /** At hour 30 the copies of four clients are ended, in use, planned, and in use but out of reach. */
    private static EmbargoDesk beforeTheKill() {
        EmbargoDesk desk = new EmbargoDesk();
        desk.setUse(1);
        desk.addClient(255, 0, 4, 9, 10);
        desk.addClient(255, 20, 5, 9, 10);
        desk.addClient(255, 48, 0, 9, 10);
        desk.addClient(255, 20, 0, 9, 10);
        Desks.release(desk, "0 1,2 @0 a");
        desk.pass(30);
        CHECK.due("of the client that gets out of reach", desk.setUp(3, false), 1);
        statesAre(desk, ENDED, IN_USE, PLANNED, IN_USE);
        return desk;
    }

    static void promise12_killTellsTheCopiesInUse() {
        EmbargoDesk desk = beforeTheKill();
        CHECK.due("kill", desk.kill(0), 2);
        statesAre(desk, ENDED, IN_USE, PLANNED, IN_USE);
        copyTells(desk, 0, 0, ENDED, 1, 1, 0, 0, 0, NONE, NONE, NONE);
        copyTells(desk, 0, 1, IN_USE, 21, 21, 0, 0, 0, NONE, 32, 45);
        copyTells(desk, 0, 2, PLANNED, 49, NONE, NONE, 0, 0, NONE, NONE, NONE);
        copyTells(desk, 0, 3, IN_USE, 21, 21, 0, 0, 0, NONE, 30, 45);
        CHECK.due("killed at", desk.story(0, 6), 30);
        CHECK.due("published at", desk.story(0, 5), 1);
        CHECK.due("copies", desk.story(0, 8), 4);
        CHECK.due("in use", desk.story(0, 9), 2);
        CHECK.due("with its version", desk.story(0, 10), 2);
        CHECK.due("correct", desk.correct(0), NOT_POSSIBLE);
        CHECK.due("release", desk.release(0), NOT_POSSIBLE);
        CHECK.due("setEmbargo", desk.setEmbargo(0, 500), NOT_POSSIBLE);
        CHECK.due("kill again", desk.kill(0), NONE);
    }

    static void promise13_theHoursAfterAKill() {
        EmbargoDesk desk = beforeTheKill();
        desk.kill(0);
        CHECK.due("nothing comes", desk.pass(1), 0);
        statesAre(desk, ENDED, IN_USE, DROPPED, IN_USE);
        desk.pass(1);
        statesAre(desk, ENDED, WITHDRAWN, DROPPED, IN_USE);
        event(desk, 0, 3, 0, 1, 32);
        event(desk, 1, 6, 0, NONE, 30);
        copyTells(desk, 0, 1, WITHDRAWN, 21, 21, 0, 0, 0, NONE, NONE, NONE);
        desk.setUp(3, true);
        desk.pass(1);
        statesAre(desk, ENDED, WITHDRAWN, DROPPED, WITHDRAWN);
        event(desk, 0, 3, 0, 3, 33);
        int[] states = {0, 0, 2, 1, 1};
        for (int state = 0; state < states.length; state++) {
            CHECK.due("copies in state " + state, desk.count(4 + state), states[state]);
        }
        CHECK.due("a dropped copy is not billed", desk.client(2, 6), 0);
        CHECK.due("a withdrawn one was", desk.client(1, 6), 10);
        CHECK.due("shares of three copies", desk.person(1, 0), 15);
        CHECK.due("their copies in use", desk.person(1, 3), 0);
    }

    static void promise13_theUseEndsBeforeTheNoticeReachesTheClient() {
        EmbargoDesk desk = beforeTheKill();
        CHECK.due("the planned copy's client is down, too", desk.setUp(2, false), 1);
        desk.kill(0);
        desk.pass(14);
        statesAre(desk, ENDED, WITHDRAWN, DROPPED, IN_USE);
        desk.pass(1);
        statesAre(desk, ENDED, WITHDRAWN, DROPPED, ENDED);
        event(desk, 0, 4, 0, 3, 45);
        CHECK.due("none planned or in use", desk.setUp(3, true), 0);
    }

    static void promise16_undoOfAKill() {
        EmbargoDesk desk = beforeTheKill();
        desk.kill(0);
        desk.pass(2);
        CHECK.due("undo of the hours", desk.undo(), 3);
        statesAre(desk, ENDED, IN_USE, PLANNED, IN_USE);
        CHECK.due("killed yet", desk.story(0, 3), 3);
        CHECK.due("undo of the kill", desk.undo(), 2);
        CHECK.due("published", desk.story(0, 3), 2);
        CHECK.due("not killed", desk.story(0, 6), NONE);
        copyTells(desk, 0, 1, IN_USE, 21, 21, 0, 0, 0, NONE, NONE, 45);
        event(desk, 0, 4, 0, 0, 25);
        event(desk, 1, 1, 0, 3, 21);
        CHECK.due("it can be corrected", desk.correct(0), 1);
        CHECK.due("until the planned one comes", desk.carriedIn(0, 2), 19);
        CHECK.due("it comes", desk.pass(19), 1);
        copyTells(desk, 0, 2, IN_USE, 49, 49, 1);
    }

    /** The corrections go on until the hour in which the notice is due. */
    static void promise13_correctionsOfAKilledStory() {
        EmbargoDesk desk = Scenes.oneClient(0, 4, 0);
        Desks.release(desk, "0 1 @0 a");
        desk.pass(1);
        desk.correct(0);
        desk.pass(2);
        desk.correct(0);
        desk.pass(1);
        desk.kill(0);
        copyTells(desk, 0, 0, IN_USE, 1, 1, 0, 2, 0, 5, 6, 73);
        CHECK.due("the second correction is due behind the notice", desk.carriedIn(0, 0), NONE);
        desk.pass(1);
        copyTells(desk, 0, 0, IN_USE, 1, 1, 1, 1, 0, 7, 6, 73);
        desk.pass(1);
        copyTells(desk, 0, 0, WITHDRAWN, 1, 1, 1, 0, 0, NONE, NONE, NONE);
        CHECK.due("version of the killed story", desk.story(0, 4), 2);
        CHECK.due("hour of its second correction", desk.correction(0, 1), 3);
        CHECK.due("corrections that copies got", desk.count(10), 1);
    }

    static void promise12_heldAndReleasedStoriesAreKilled() {
        EmbargoDesk desk = Scenes.oneClient(0, 0, 0);
        Desks.read(desk, "0 1 @0 a");
        Desks.release(desk, "0 1 @0 b");
        Desks.release(desk, "0 1 @0 c");
        CHECK.due("held", desk.kill(0), 0);
        CHECK.due("released", desk.kill(1), 0);
        CHECK.due("only story 2", desk.pass(1), 1);
        CHECK.due("no copy of a killed story", desk.copy(1, 0, 0), UNKNOWN);
        CHECK.due("never published", desk.story(1, 5), NONE);
        desk.undo();
        desk.undo();
        CHECK.due("released again", desk.story(1, 3), 1);
        CHECK.due("stories 1 and 2", desk.pass(1), 2);
    }

    // ---- days of use that are set while copies are in use

    /** Copies of one client that came at the hours 1, 10 and 30. */
    private static EmbargoDesk threeInUse() {
        EmbargoDesk desk = Scenes.oneClient(0, 0, 0);
        int[] hours = {1, 10, 30};
        for (int hour : hours) {
            Desks.release(desk, "0 1 @" + hour + " a");
        }
        CHECK.due("three", desk.pass(30), 3);
        return desk;
    }

    private static void useEndsAt(EmbargoDesk desk, int... due) {
        for (int story = 0; story < due.length; story++) {
            CHECK.due("the use of story " + story + " ends", desk.copy(story, 0, 8), due[story]);
        }
    }

    static void promise05_countsAtOnceForAllInUse() {
        EmbargoDesk desk = threeInUse();
        useEndsAt(desk, 73, 82, 102);
        CHECK.due("setUse", desk.setUse(1), 3);
        useEndsAt(desk, 25, 34, 54);
        CHECK.due("none has ended yet", desk.count(5), 3);
        CHECK.due("in use now", desk.carriedIn(0, 0), 0);
        desk.pass(1);
        useEndsAt(desk, NONE, 34, 54);
        event(desk, 0, 4, 0, 0, 31);
        CHECK.due("setUse", desk.setUse(9), 1);
        useEndsAt(desk, NONE, 226, 246);
        CHECK.due("what has ended stays so", desk.copy(0, 0, 0), ENDED);
        CHECK.due("setUse", desk.setUse(2), 9);
        desk.pass(27);
        useEndsAt(desk, NONE, NONE, 78);
        event(desk, 0, 4, 1, 0, 58);
    }

    static void promise05_longerUseInTimeSavesTheCopy() {
        EmbargoDesk desk = threeInUse();
        desk.setUse(1);
        desk.setUse(2);
        desk.pass(1);
        useEndsAt(desk, 49, 58, 78);
        CHECK.due("all in use", desk.count(5), 3);
    }

    static void promise05_aCorrectionThatComesOnlyWithLongerUse() {
        EmbargoDesk desk = Desks.withCopyInUse(24, 0);
        desk.correct(0);
        desk.setUse(1);
        CHECK.due("the use ends before", desk.carriedIn(0, 0), NONE);
        desk.setUse(2);
        CHECK.due("long enough", desk.carriedIn(0, 0), 24);
        desk.undo();
        CHECK.due("the use ends before, again", desk.carriedIn(0, 0), NONE);
    }

    static void promise18_restoreOfTheDaysOfUse() {
        EmbargoDesk desk = threeInUse();
        desk.keep();
        desk.setUse(1);
        desk.pass(30);
        CHECK.due("all have ended", desk.count(7), 3);
        CHECK.due("restore", desk.restore(), 30);
        CHECK.due("days of use", desk.count(12), 3);
        useEndsAt(desk, 73, 82, 102);
        desk.undo();
        CHECK.due("days of use", desk.count(12), 1);
        CHECK.due("all have ended", desk.count(7), 3);
    }

    // ---- a day's limit over the hour that can be divided by 24

    private static EmbargoDesk atTheEndOfTheDay() {
        EmbargoDesk desk = new EmbargoDesk();
        desk.addClient(255, 0, 0, 2, 7);
        for (int story = 0; story < 5; story++) {
            Desks.release(desk, "0 1 @22 a");
        }
        CHECK.due("until hour 23", desk.pass(23), 2);
        return desk;
    }

    static void promise13_theLimitOverTheEndOfTheDay() {
        EmbargoDesk desk = atTheEndOfTheDay();
        CHECK.due("today", desk.client(0, 7), 2);
        CHECK.due("an hour", desk.wouldCome(0, 1), 2);
        CHECK.due("until the next day", desk.wouldCome(0, 24), 2);
        CHECK.due("on the next day, too", desk.wouldCome(0, 25), 3);
        CHECK.due("the first that waits", desk.carriedIn(2, 0), 1);
        CHECK.due("the last that waits", desk.carriedIn(4, 0), 25);
        CHECK.due("today, still", desk.client(0, 7), 2);
        CHECK.due("they come", desk.pass(25), 3);
        CHECK.due("today", desk.client(0, 7), 1);
        CHECK.due("of all days", desk.client(0, 8), 5);
        CHECK.due("owes", desk.client(0, 6), 35);
    }

    static void promise16_theDaysCopiesAfterAnUndo() {
        EmbargoDesk desk = atTheEndOfTheDay();
        desk.pass(1);
        CHECK.due("of all days", desk.client(0, 8), 4);
        desk.undo();
        CHECK.due("of the day before", desk.client(0, 7), 2);
        CHECK.due("of all days", desk.client(0, 8), 2);
        desk.setUp(0, false);
        CHECK.due("down", desk.pass(1), 0);
        CHECK.due("none on this day", desk.client(0, 7), 0);
        desk.undo();
        CHECK.due("of the day before", desk.client(0, 7), 2);
        desk.undo();
        CHECK.due("the same again", desk.pass(1), 2);
    }

    /** Waiting copies of a killed story leave their places on the next day to others. */
    static void promise13_droppedCopiesTakeNoPlaceOfTheDay() {
        EmbargoDesk desk = atTheEndOfTheDay();
        desk.kill(2);
        desk.kill(3);
        CHECK.due("only the last one is left", desk.pass(1), 1);
        CHECK.due("it came", desk.copy(4, 0, 2), 24);
        CHECK.due("dropped", desk.count(8), 2);
        CHECK.due("today", desk.client(0, 7), 1);
    }

    // ---- an act, then a restore

    /** What each act changes comes back with the snapshot, and with an undo of the restore what it changed. */
    private static void comesBack(ToIntFunction<EmbargoDesk> act) {
        Supplier<EmbargoDesk> kept = () -> {
            EmbargoDesk desk = Scenes.busy();
            desk.keep();
            return desk;
        };
        CHECK.holds("the act is done", act.applyAsInt(kept.get()) >= 0);
        String restored = Twins.difference(
            // Behind three acts the two histories differ in their oldest state alone, and one undo does not reach it.
            () -> threeActs(afterRestore(kept.get(), desk -> 0)),
            () -> threeActs(afterRestore(kept.get(), act)),
            List.of(desk -> { }, EmbargoDesk::undo, EmbargoDesk::restore, desk -> desk.pass(30)));
        CHECK.holds("restored " + restored, restored.isEmpty());
        String undone = Twins.difference(
            () -> fourActs(after(kept.get(), act)),
            () -> {
                EmbargoDesk desk = afterRestore(kept.get(), act);
                desk.undo();
                return fourActs(desk);
            });
        CHECK.holds("undone " + undone, undone.isEmpty());
    }

    private static EmbargoDesk after(EmbargoDesk desk, ToIntFunction<EmbargoDesk> act) {
        act.applyAsInt(desk);
        return desk;
    }

    private static EmbargoDesk afterRestore(EmbargoDesk desk, ToIntFunction<EmbargoDesk> act) {
        act.applyAsInt(desk);
        desk.restore();
        return desk;
    }

    private static EmbargoDesk threeActs(EmbargoDesk desk) {
        desk.setUse(7);
        desk.setUse(6);
        desk.setUse(5);
        return desk;
    }

    private static EmbargoDesk fourActs(EmbargoDesk desk) {
        desk.setUse(8);
        return threeActs(desk);
    }

    static void promise18_restoreAfterEachActOfClients() {
        comesBack(desk -> desk.addClient(77, 7, 6, 5, 4));
        comesBack(desk -> desk.setTopics(0, 12));
        comesBack(desk -> desk.setUp(2, false));
        comesBack(desk -> desk.setUse(9));
        comesBack(desk -> desk.pay(0, 1000));
    }

    static void promise18_restoreAfterEachActOfStories() {
        comesBack(EmbargoDesk::readStory);
        comesBack(desk -> desk.release(4));
        comesBack(desk -> desk.hold(5));
        comesBack(desk -> desk.setEmbargo(5, 123));
        comesBack(desk -> desk.correct(2));
        comesBack(desk -> desk.kill(2));
        comesBack(desk -> desk.pass(1));
        comesBack(desk -> desk.pass(100));
        comesBack(EmbargoDesk::restore);
    }

    /** Text, history and snapshot are no parts of a state. */
    static void promise16_whatIsNoPartOfAState() {
        EmbargoDesk desk = new EmbargoDesk();
        Desks.type(desk, "0 1 @0 a");
        desk.keep();
        CHECK.due("readStory", desk.readStory(), 0);
        desk.type('b');
        CHECK.due("undo", desk.undo(), 0);
        CHECK.due("length of the text", desk.count(14), 9);
        CHECK.due("the story has gone", desk.count(2), 0);
        CHECK.due("its number is given again", desk.readStory(), 0);
        CHECK.due("letters", desk.story(0, 7), 2);
        CHECK.due("keep", desk.keep(), 0);
        desk.clearText();
        CHECK.due("restore", desk.restore(), 0);
        CHECK.due("the text is empty", desk.count(14), 0);
        CHECK.due("states", desk.count(13), 2);
        CHECK.due("undo of the restore", desk.undo(), 1);
        CHECK.due("undo of the story", desk.undo(), 0);
        CHECK.due("restore", desk.restore(), 0);
        CHECK.due("the snapshot was not undone", desk.story(0, 7), 2);
    }

    // ---- what is told of what will be happens

    private static void whatWillBe(Supplier<EmbargoDesk> scene) {
        EmbargoDesk desk = scene.get();
        int clients = desk.count(1);
        int copies = Math.min(desk.count(3), 20);
        int[] hours = {1, 2, 24, 50, 100};
        for (int some : hours) {
            int told = 0;
            for (int client = 0; client < clients; client++) {
                told += desk.wouldCome(client, some);
            }
            CHECK.due("copies that come in " + some + " hours", scene.get().pass(some), told);
        }
        for (int place = 0; place < copies; place++) {
            int story = desk.copyAt(place) / 10;
            int client = desk.copyAt(place) % 10;
            CHECK.due("carriedIn(" + story + ", " + client + ")", desk.carriedIn(story, client),
                carried(scene.get(), story, client));
        }
    }

    /** Lets the hours pass one by one. */
    private static int carried(EmbargoDesk desk, int story, int client) {
        int version = desk.story(story, 4);
        for (int hours = 0; hours <= 100; hours++) {
            if (desk.copy(story, client, 0) == IN_USE && desk.copy(story, client, 3) == version) {
                return hours;
            }
            desk.pass(1);
        }
        return NONE;
    }

    static void promises27and28_whatWasToldHappens() {
        whatWillBe(Scenes::busy);
        whatWillBe(() -> {
            EmbargoDesk desk = Scenes.busy();
            desk.setUp(1, true);
            desk.setUse(9);
            return desk;
        });
        whatWillBe(Scenes::full);
        whatWillBe(InterplayTest::downForSomeHours);
        whatWillBe(InterplayTest::atTheEndOfTheDay);
        whatWillBe(InterplayTest::beforeTheKill);
    }

    // ---- topics and clients that change between

    static void promise03_topicsThatChangeBetweenReleaseAndPublishing() {
        EmbargoDesk desk = new EmbargoDesk();
        desk.addClient(1, 3, 0, 9, 0);
        desk.addClient(2, 0, 0, 9, 0);
        Desks.read(desk, "0 1 @2 a");
        CHECK.due("release", desk.release(0), 1);
        CHECK.due("topics before", desk.setTopics(1, 3), 2);
        CHECK.due("hold", desk.hold(0), 2);
        CHECK.due("release", desk.release(0), 2);
        desk.pass(2);
        CHECK.due("copies", desk.story(0, 8), 2);
        desk.setTopics(0, 128);
        CHECK.due("a copy that is planned comes all the same", desk.pass(3), 1);
        CHECK.due("came at", desk.copy(0, 0, 2), 5);
        desk.undo();
        desk.undo();
        CHECK.due("its topics again", desk.client(0, 0), 1);
    }

    /** The restore leaves no hours in between in which the first one owed nothing, as an undo of each act would. */
    static void promise02_aClientInThePlaceOfAnother() {
        EmbargoDesk desk = new EmbargoDesk();
        desk.addClient(1, 0, 0, 9, 2000000000);
        desk.keep();
        desk.addClient(1, 0, 0, 1, 1500000000);
        for (int story = 0; story < 3; story++) {
            Desks.release(desk, "0 1 @0 a");
        }
        desk.pass(48);
        CHECK.due("the first one owes", desk.client(1, 6), 1500000000);
        CHECK.due("not billed", desk.client(1, 10), 2);
        desk.setUp(1, false);
        desk.restore();
        CHECK.due("one client is left", desk.count(1), 1);
        CHECK.due("no such client", desk.client(1, 6), UNKNOWN);
        CHECK.due("another one", desk.addClient(1, 5, 0, 9, 3), 1);
        int[] told = {1, 5, 0, 9, 3, 1, 0, 0, 0, 0, 0};
        for (int what = 0; what < told.length; what++) {
            CHECK.due("client(1, " + what + ")", desk.client(1, what), told[what]);
        }
        Desks.release(desk, "0 1 @0 a");
        CHECK.due("without delay", desk.pass(1), 1);
        copyTells(desk, 0, 0, IN_USE, 1, 1, 0);
        copyTells(desk, 0, 1, PLANNED, 6, NONE, NONE);
        CHECK.due("person 1 has got", desk.person(1, 0), 2000000000);
    }
}
