import java.util.List;
import java.util.function.Consumer;
import java.util.function.Supplier;
import java.util.function.ToIntFunction;

/**
 * "Each call of a method that is described as an act, and returns no error and not NONE, records the state that was
 * before it": with each number of states in the history, from none to four, each act is done and undone. Besides, the
 * numbers of all states and kinds, the first and the last among them.
 */
public final class ActsTest {
    private static final int NONE = EmbargoDesk.NONE;

    private static final Check CHECK = new Check("ActsTest");

    public static void main(String[] args) throws IllegalAccessException {
        CHECK.allPromises(ActsTest.class);
    }

    // ---- acts

    /** The busy desk, but with this many states in its history, and a snapshot of another hour. */
    private static EmbargoDesk withStates(int states) {
        EmbargoDesk desk = Scenes.busy();
        for (int i = 4; i > states; i--) {
            desk.undo();
        }
        return desk;
    }

    private static void isAct(ToIntFunction<EmbargoDesk> act) {
        for (int states = 0; states <= 4; states++) {
            EmbargoDesk desk = withStates(states);
            CHECK.holds("the act is done", act.applyAsInt(desk) >= 0);
            CHECK.due("states", desk.count(13), Math.min(4, states + 1));
            CHECK.due("undo", desk.undo(), Math.min(3, states));
        }
        String back = Twins.difference(() -> withStates(3), () -> {
            EmbargoDesk desk = withStates(3);
            act.applyAsInt(desk);
            desk.undo();
            return desk;
        });
        CHECK.holds("undo brings all back " + back, back.isEmpty());
        String changed = Twins.difference(() -> withStates(3), () -> {
            EmbargoDesk desk = withStates(3);
            act.applyAsInt(desk);
            return desk;
        });
        CHECK.holds("the act changes something", !changed.isEmpty());
    }

    static void promise02_addClientIsAnAct() {
        isAct(desk -> desk.addClient(77, 7, 6, 5, 4));
    }

    static void promise03_setTopicsIsAnAct() {
        isAct(desk -> desk.setTopics(0, 12));
    }

    static void promise04_setUpIsAnAct() {
        isAct(desk -> desk.setUp(2, false));
    }

    static void promise05_setUseIsAnAct() {
        isAct(desk -> desk.setUse(9));
    }

    static void promise06_payIsAnAct() {
        isAct(desk -> desk.pay(0, 1000));
    }

    static void promise07_readStoryIsAnAct() {
        isAct(EmbargoDesk::readStory);
    }

    static void promise08_releaseIsAnAct() {
        isAct(desk -> desk.release(4));
    }

    static void promise09_holdIsAnAct() {
        isAct(desk -> desk.hold(5));
    }

    static void promise10_setEmbargoIsAnAct() {
        isAct(desk -> desk.setEmbargo(5, 123));
    }

    static void promise11_correctIsAnAct() {
        isAct(desk -> desk.correct(2));
    }

    static void promise12_killIsAnAct() {
        isAct(desk -> desk.kill(2));
        isAct(desk -> desk.kill(4));
    }

    static void promise13_passIsAnAct() {
        isAct(desk -> desk.pass(1));
        isAct(desk -> desk.pass(100));
    }

    static void promise18_restoreIsAnAct() {
        isAct(EmbargoDesk::restore);
    }

    // ---- what is no act

    private static void isNoAct(Consumer<EmbargoDesk> call) {
        for (int states = 0; states <= 4; states++) {
            EmbargoDesk desk = withStates(states);
            call.accept(desk);
            CHECK.due("states", desk.count(13), states);
        }
    }

    static void promise14_typeIsNoAct() {
        isNoAct(desk -> desk.type('x'));
    }

    static void promise15_clearTextIsNoAct() {
        isNoAct(EmbargoDesk::clearText);
    }

    static void promise17_keepIsNoAct() {
        isNoAct(EmbargoDesk::keep);
    }

    // ---- a state is everything but the text, the history and the snapshot

    /** Restores what a desk was, on one that is another one now. */
    private static void restores(Supplier<EmbargoDesk> kept, Consumer<EmbargoDesk> then) {
        String difference = Twins.difference(() -> acts(kept.get(), 4), () -> {
            EmbargoDesk desk = kept.get();
            desk.keep();
            then.accept(desk);
            desk.restore();
            return acts(desk, 4);
        }, List.of(desk -> { }, desk -> desk.pass(50), desk -> undo(desk, 4)));
        CHECK.holds("all is as it was kept " + difference, difference.isEmpty());
    }

    /** Fills the history with states of the present. */
    private static EmbargoDesk acts(EmbargoDesk desk, int acts) {
        for (int i = 0; i < acts; i++) {
            desk.setUse(i % 2 == 0 ? 8 : 7);
        }
        return desk;
    }

    private static void undo(EmbargoDesk desk, int times) {
        for (int i = 0; i < times; i++) {
            desk.undo();
        }
    }

    /** Changes all that can be changed. */
    private static void turnRound(EmbargoDesk desk) {
        desk.addClient(1, 1, 1, 1, 1);
        desk.setTopics(0, 1);
        desk.setTopics(1, 128);
        desk.setUp(1, true);
        desk.setUp(2, false);
        desk.readStory();
        desk.release(4);
        desk.hold(5);
        desk.setEmbargo(5, 40);
        desk.pay(0, 1000000000);
        desk.correct(2);
        desk.pass(20);
        desk.kill(2);
        desk.kill(1);
        desk.pass(90);
    }

    static void promise18_restoreBringsAllBack() {
        restores(Scenes::busy, ActsTest::turnRound);
        restores(Scenes::full, ActsTest::turnRound);
        restores(EmbargoDesk::new, desk -> {
            desk.addClient(255, 0, 0, 9, 2000000000);
            desk.pass(100);
        });
    }

    /** The numbers of stories and clients are given again to others. */
    static void promise18_restoreBringsOthersWithTheSameNumbersBack() {
        Supplier<EmbargoDesk> kept = () -> {
            EmbargoDesk desk = new EmbargoDesk();
            desk.addClient(1, 2, 3, 4, 1000);
            Desks.read(desk, "0 1,2 @0 abc");
            desk.release(0);
            return desk;
        };
        Consumer<EmbargoDesk> others = desk -> {
            undo(desk, 3);
            desk.addClient(255, 0, 9, 8, 7);
            Desks.read(desk, "7 3,4,5 @0 zyxwv");
            desk.clearText();
            Scenes.type(desk, "0 1,2 @0 abc");
            desk.release(0);
            desk.pass(3);
            desk.correct(0);
            desk.kill(0);
            desk.setUp(0, false);
        };
        restores(kept, others);
    }

    /** Two clients who each have a copy that was not billed to come, and a person who has a share to lose. */
    private static EmbargoDesk beforeSumsAreFull() {
        EmbargoDesk desk = new EmbargoDesk();
        desk.addClient(1, 0, 0, 9, 2000000000);
        desk.addClient(1, 0, 0, 9, 2000000000);
        Desks.release(desk, "0 1,2 @0 a");
        Desks.release(desk, "0 3 @0 b");
        return desk;
    }

    static void promise18_restoreBringsTheSumsBack() {
        restores(ActsTest::beforeSumsAreFull, desk -> desk.pass(9));
        restores(() -> {
            EmbargoDesk desk = beforeSumsAreFull();
            Desks.release(desk, "0 1 @2 c");
            desk.pass(1);
            return desk;
        }, desk -> {
            CHECK.due("owes", desk.client(0, 6), 2000000000);
            desk.pay(0, 2000000000);
            desk.pay(1, 2000000000);
            desk.pass(1);
            CHECK.due("lost", desk.person(1, 1), 2);
            CHECK.due("came", desk.client(0, 8), 3);
            desk.pay(1, 2000000000);
        });
    }

    /** Behind the undo or the restore the same number is given to another one, who has nothing of the first. */
    private static void nothingIsLeft(Consumer<EmbargoDesk> takenBack) {
        String difference = Twins.difference(() -> acts(newOnes(new EmbargoDesk()), 4), () -> {
            EmbargoDesk desk = new EmbargoDesk();
            desk.keep();
            takenBack.accept(desk);
            return acts(newOnes(desk), 4);
        }, List.of(desk -> { }, desk -> desk.pass(1), desk -> desk.pass(50), desk -> undo(desk, 4)));
        CHECK.holds("nothing is left " + difference, difference.isEmpty());
    }

    private static EmbargoDesk newOnes(EmbargoDesk desk) {
        desk.addClient(5, 1, 1, 1, 1);
        Desks.read(desk, "0 9 @0 z");
        desk.addClient(6, 1, 1, 1, 1);
        Desks.read(desk, "1 8 @0 z");
        return desk;
    }

    static void promise18_nothingIsLeftBehindARestore() {
        nothingIsLeft(desk -> {
            desk.addClient(255, 0, 0, 9, 2000000000);
            desk.addClient(255, 0, 0, 9, 2000000000);
            Desks.release(desk, "7 1,2,3 @0 abcdef");
            Desks.release(desk, "6 1,2,3 @0 abcdef");
            desk.pass(3);
            desk.correct(0);
            desk.kill(0);
            desk.kill(1);
            desk.setUp(0, false);
            desk.setUp(1, false);
            desk.restore();
        });
    }

    static void promise16_nothingIsLeftBehindUndos() {
        nothingIsLeft(desk -> {
            desk.addClient(255, 9, 0, 9, 2000000000);
            desk.setUp(0, false);
            Desks.read(desk, "7 1,2,3 @0 abcdef");
            desk.kill(0);
            undo(desk, 4);
        });
    }

    // ---- the numbers of states and kinds

    static void promise19_states0To3() {
        EmbargoDesk desk = new EmbargoDesk();
        Desks.read(desk, "0 1 @0 a");
        CHECK.due("held at first", desk.story(0, 3), 0);
        desk.release(0);
        CHECK.due("released", desk.story(0, 3), 1);
        desk.hold(0);
        CHECK.due("held again", desk.story(0, 3), 0);
        desk.release(0);
        desk.pass(1);
        CHECK.due("published", desk.story(0, 3), 2);
        desk.correct(0);
        CHECK.due("published, with a correction", desk.story(0, 3), 2);
        desk.kill(0);
        CHECK.due("killed", desk.story(0, 3), 3);
    }

    static void promise25_states0To4() {
        EmbargoDesk desk = Scenes.busy();
        int[][] rows = {{2, 2, 0}, {2, 0, 1}, {2, 1, 1}, {3, 0, 2}, {3, 1, 2}, {0, 0, 3}, {1, 0, 3}, {0, 2, 4}};
        for (int[] row : rows) {
            CHECK.due("state of copy " + row[0] + ", " + row[1], desk.copy(row[0], row[1], 0), row[2]);
        }
    }

    static void promise30_copiesInTheStates0To4() {
        EmbargoDesk desk = Scenes.busy();
        int[] told = {1, 2, 2, 4, 1};
        for (int state = 0; state <= 4; state++) {
            CHECK.due("copies in state " + state, desk.count(4 + state), told[state]);
        }
        CHECK.due("copies", desk.count(3), 1 + 2 + 2 + 4 + 1);
    }

    static void promise23_upOrDown() {
        EmbargoDesk desk = Scenes.oneClient(0, 0, 0);
        CHECK.due("up at first", desk.client(0, 5), 1);
        desk.setUp(0, false);
        CHECK.due("down", desk.client(0, 5), 0);
        desk.setUp(0, true);
        CHECK.due("up", desk.client(0, 5), 1);
    }

    private static void event(EmbargoDesk desk, int kind, int story, int client, int hour) {
        CHECK.due("kind", desk.event(0, 0), kind);
        CHECK.due("story of kind " + kind, desk.event(0, 1), story);
        CHECK.due("client of kind " + kind, desk.event(0, 2), client);
        CHECK.due("hour of kind " + kind, desk.event(0, 3), hour);
    }

    static void promise29_kinds0To6() {
        EmbargoDesk desk = new EmbargoDesk();
        desk.addClient(2, 0, 0, 1, 0);
        desk.addClient(1, 2, 4, 9, 0);
        Desks.read(desk, "7 1 @0 a");
        Desks.release(desk, "0 1 @0 b");
        desk.pass(1);
        event(desk, 0, 1, NONE, 1);
        desk.pass(2);
        event(desk, 1, 1, 1, 3);
        desk.correct(1);
        event(desk, 5, 1, NONE, 3);
        desk.pass(4);
        event(desk, 2, 1, 1, 7);
        desk.kill(1);
        event(desk, 6, 1, NONE, 7);
        desk.pass(2);
        event(desk, 3, 1, 1, 9);
        desk.undo();
        desk.undo();
        desk.setUse(1);
        desk.pass(20);
        event(desk, 4, 1, 1, 27);
    }

    static void promise12_aKillLeavesWhatTheStoryWas() {
        EmbargoDesk desk = Scenes.oneClient(0, 9, 0);
        Desks.release(desk, "3 4,5 @2 abc");
        desk.pass(2);
        desk.correct(0);
        desk.kill(0);
        int[] told = {3, 2, 2, 3, 1, 2, 2, 3, 1, 1, 0};
        for (int what = 0; what < told.length; what++) {
            CHECK.due("story(0, " + what + ")", desk.story(0, what), told[what]);
        }
        CHECK.due("its correction", desk.correction(0, 0), 2);
        CHECK.due("its second person", desk.byline(0, 1), 5);
        CHECK.due("its third letter", desk.slugChar(0, 2), 'c');
    }

    static void promise08_clientsThatAreDownCount() {
        EmbargoDesk desk = new EmbargoDesk();
        desk.addClient(1, 48, 24, 1, 0);
        desk.addClient(1, 0, 0, 9, 0);
        desk.setUp(0, false);
        Desks.read(desk, "0 1 @0 a");
        CHECK.due("release", desk.release(0), 2);
        desk.pass(1);
        CHECK.due("copies", desk.story(0, 8), 2);
    }

    static void promise19_copiesThatAreOverAreNotInUse() {
        EmbargoDesk desk = Scenes.busy();
        int[][] rows = {{0, 3, 0, 0}, {1, 2, 0, 0}, {2, 3, 2, 0}, {3, 2, 0, 0}, {4, 0, 0, 0}};
        for (int[] row : rows) {
            CHECK.due("copies of story " + row[0], desk.story(row[0], 8), row[1]);
            CHECK.due("in use of story " + row[0], desk.story(row[0], 9), row[2]);
            CHECK.due("with its version of story " + row[0], desk.story(row[0], 10), row[3]);
        }
    }

    // ---- at most 512 calls

    static void promise16_the512thCall() {
        EmbargoDesk desk = new EmbargoDesk();
        for (int call = 1; call <= 508; call++) {
            int due = call == 1 ? 3 : call % 2 == 0 ? 9 : 1;
            CHECK.due("call " + call, desk.setUse(call % 2 == 0 ? 1 : 9), due);
        }
        CHECK.due("call 509", desk.undo(), 3);
        CHECK.due("call 510", desk.undo(), 2);
        CHECK.due("call 511", desk.count(12), 1);
        CHECK.due("call 512", desk.count(13), 2);
    }

    static void promise13_the512thCall() {
        EmbargoDesk desk = new EmbargoDesk();
        for (int call = 1; call <= 511; call++) {
            CHECK.due("call " + call, desk.pass(19), 0);
        }
        CHECK.due("call 512", desk.count(0), 511 * 19);
    }

    // ---- the first and the last copy, story and person are counted, too

    static void promise19_theFirstAndTheLastCopyCount() {
        for (int client = 0; client < 8; client++) {
            EmbargoDesk desk = new EmbargoDesk();
            for (int number = 0; number < 8; number++) {
                desk.addClient(255, number == client ? 0 : 48, 9, 9, 0);
            }
            Desks.release(desk, "0 1 @0 a");
            desk.pass(1);
            CHECK.due("copies", desk.story(0, 8), 8);
            CHECK.due("in use", desk.story(0, 9), 1);
            CHECK.due("with its version", desk.story(0, 10), 1);
            CHECK.due("planned", desk.count(4), 7);
            CHECK.due("copies in use of client " + client, desk.client(client, 9), 1);
            CHECK.due("copies in use of another client", desk.client((client + 1) % 8, 9), 0);
            desk.correct(0);
            CHECK.due("without its version", desk.story(0, 10), 0);
            CHECK.due("with a correction that is due", desk.count(9), 0);
            desk.setUp(client, false);
            desk.pass(9);
            CHECK.due("with a correction that is due", desk.count(9), 1);
            CHECK.due("kill", desk.kill(0), 1);
        }
    }

    static void promise24_theFirstAndTheLastStoryCount() {
        EmbargoDesk desk = Scenes.oneClient(0, 0, 0);
        desk.addClient(255, 0, 0, 9, 0);
        for (int story = 0; story < 9; story++) {
            Desks.release(desk, (story % 8) + " " + (story == 0 || story == 8 ? "5,9" : "9") + " @0 a");
        }
        desk.pass(1);
        CHECK.due("stories of person 5", desk.person(5, 2), 2);
        CHECK.due("copies in use of person 5", desk.person(5, 3), 4);
        CHECK.due("stories of person 9", desk.person(9, 2), 9);
        CHECK.due("copies in use of person 9", desk.person(9, 3), 18);
        desk.kill(0);
        desk.pass(1);
        CHECK.due("copies in use of person 5", desk.person(5, 3), 2);
        CHECK.due("stories of person 5", desk.person(5, 2), 2);
    }

    static void promise30_eachPersonOnce() {
        EmbargoDesk desk = new EmbargoDesk();
        int[] told = {1, 2, 2, 3};
        String[] bylines = {"0", "9", "9,0", "0,9,5"};
        for (int story = 0; story < 4; story++) {
            Desks.read(desk, "0 " + bylines[story] + " @0 a");
            CHECK.due("persons in all bylines", desk.count(11), told[story]);
        }
        desk.kill(3);
        CHECK.due("of killed stories, too", desk.count(11), 3);
    }
}
