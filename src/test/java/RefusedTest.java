import java.util.function.Supplier;
import java.util.function.ToIntFunction;

/**
 * "A call that returns an error or NONE changes nothing": each refused call is made on desks of several sorts, and then
 * nothing that can be told is other than without it, the history, the snapshot and the text included. The same is asked
 * of the calls that tell something.
 */
public final class RefusedTest {
    private static final int UNKNOWN = EmbargoDesk.UNKNOWN;
    private static final int BAD_VALUE = EmbargoDesk.BAD_VALUE;
    private static final int FULL = EmbargoDesk.FULL;
    private static final int NOT_POSSIBLE = EmbargoDesk.NOT_POSSIBLE;
    private static final int NONE = EmbargoDesk.NONE;

    private static final Check CHECK = new Check("RefusedTest");

    public static void main(String[] args) throws IllegalAccessException {
        CHECK.allPromises(RefusedTest.class);
    }

    private static void refused(Supplier<EmbargoDesk> scene, int due, ToIntFunction<EmbargoDesk> call) {
        CHECK.due("the refused call", call.applyAsInt(scene.get()), due);
        changesNothing(scene, call);
    }

    private static void changesNothing(Supplier<EmbargoDesk> scene, ToIntFunction<EmbargoDesk> call) {
        String difference = Twins.difference(scene, () -> {
            EmbargoDesk desk = scene.get();
            call.applyAsInt(desk);
            return desk;
        });
        CHECK.holds("it changes nothing " + difference, difference.isEmpty());
    }

    /** The busy desk behind undos and a restore: what the history dropped is not what a new object has there. */
    private static EmbargoDesk undone() {
        EmbargoDesk desk = Scenes.busy();
        desk.undo();
        desk.restore();
        desk.undo();
        return desk;
    }

    static void promise02_refusedAddClient() {
        refused(Scenes::busy, BAD_VALUE, desk -> desk.addClient(0, 0, 0, 1, 0));
        refused(Scenes::busy, BAD_VALUE, desk -> desk.addClient(1, 0, 0, 1, 2000000001));
        refused(EmbargoDesk::new, BAD_VALUE, desk -> desk.addClient(1, 49, 0, 1, 0));
        refused(Scenes::full, FULL, desk -> desk.addClient(1, 0, 0, 1, 0));
        refused(RefusedTest::undone, BAD_VALUE, desk -> desk.addClient(1, -1, 0, 1, 0));
    }

    static void promise03_refusedSetTopics() {
        refused(Scenes::busy, UNKNOWN, desk -> desk.setTopics(3, 1));
        refused(Scenes::busy, BAD_VALUE, desk -> desk.setTopics(0, 256));
        refused(Scenes::busy, NONE, desk -> desk.setTopics(0, 255));
        refused(EmbargoDesk::new, UNKNOWN, desk -> desk.setTopics(0, 1));
    }

    static void promise04_refusedSetUp() {
        refused(Scenes::busy, UNKNOWN, desk -> desk.setUp(3, false));
        refused(Scenes::busy, NONE, desk -> desk.setUp(0, true));
        refused(Scenes::busy, NONE, desk -> desk.setUp(1, false));
        refused(EmbargoDesk::new, UNKNOWN, desk -> desk.setUp(0, false));
    }

    static void promise05_refusedSetUse() {
        refused(Scenes::busy, BAD_VALUE, desk -> desk.setUse(0));
        refused(Scenes::busy, BAD_VALUE, desk -> desk.setUse(10));
        refused(Scenes::busy, NONE, desk -> desk.setUse(3));
        refused(EmbargoDesk::new, NONE, desk -> desk.setUse(3));
    }

    static void promise06_refusedPay() {
        refused(Scenes::busy, UNKNOWN, desk -> desk.pay(3, 1));
        refused(Scenes::busy, BAD_VALUE, desk -> desk.pay(0, 0));
        refused(Scenes::busy, BAD_VALUE, desk -> desk.pay(0, -1));
        refused(Scenes::busy, NOT_POSSIBLE, desk -> desk.pay(0, 1999999998));
        refused(Scenes::busy, NOT_POSSIBLE, desk -> desk.pay(2, 1));
    }

    static void promise07_refusedReadStory() {
        refused(Scenes::full, FULL, EmbargoDesk::readStory);
        refused(Scenes::fullText, -119, EmbargoDesk::readStory);
        refused(EmbargoDesk::new, -100, EmbargoDesk::readStory);
        // Each fault stands behind other parts that were read already.
        String[] faulty = {"7", "7 ", "7 9", "7 9,", "7 9,8,", "7 9,8,7", "7 9,8,7 ", "7 9,8,7 @", "7 9,8,7 @9",
            "7 9,8,7 @998", "7 9,8,7 @998 ", "7 9,8,7 @998 yyy.", "7 9,8,7,6", "7 9,9", "7 9 @00", "7 9 @9999"};
        for (String text : faulty) {
            Supplier<EmbargoDesk> scene = () -> {
                EmbargoDesk desk = Scenes.busy();
                Desks.type(desk, text);
                return desk;
            };
            CHECK.holds("a fault of " + text, scene.get().readStory() <= -100);
            changesNothing(scene, EmbargoDesk::readStory);
        }
    }

    static void promise08_refusedRelease() {
        refused(Scenes::busy, UNKNOWN, desk -> desk.release(6));
        refused(Scenes::busy, UNKNOWN, desk -> desk.release(-1));
        refused(Scenes::busy, NOT_POSSIBLE, desk -> desk.release(0));
        refused(Scenes::busy, NOT_POSSIBLE, desk -> desk.release(2));
        refused(Scenes::busy, NOT_POSSIBLE, desk -> desk.release(5));
    }

    static void promise09_refusedHold() {
        refused(Scenes::busy, UNKNOWN, desk -> desk.hold(6));
        refused(Scenes::busy, UNKNOWN, desk -> desk.hold(-1));
        refused(Scenes::busy, NOT_POSSIBLE, desk -> desk.hold(0));
        refused(Scenes::busy, NOT_POSSIBLE, desk -> desk.hold(2));
        refused(Scenes::busy, NOT_POSSIBLE, desk -> desk.hold(4));
    }

    static void promise10_refusedSetEmbargo() {
        refused(Scenes::busy, UNKNOWN, desk -> desk.setEmbargo(6, 1));
        refused(Scenes::busy, BAD_VALUE, desk -> desk.setEmbargo(4, 1000));
        refused(Scenes::busy, BAD_VALUE, desk -> desk.setEmbargo(5, -1));
        refused(Scenes::busy, NOT_POSSIBLE, desk -> desk.setEmbargo(0, 1));
        refused(Scenes::busy, NOT_POSSIBLE, desk -> desk.setEmbargo(2, 1));
        refused(Scenes::busy, NONE, desk -> desk.setEmbargo(4, 500));
        refused(Scenes::busy, NONE, desk -> desk.setEmbargo(5, 999));
    }

    static void promise11_refusedCorrect() {
        refused(Scenes::busy, UNKNOWN, desk -> desk.correct(6));
        refused(Scenes::busy, NOT_POSSIBLE, desk -> desk.correct(0));
        refused(Scenes::busy, NOT_POSSIBLE, desk -> desk.correct(4));
        refused(Scenes::busy, NOT_POSSIBLE, desk -> desk.correct(5));
        refused(Scenes::full, FULL, desk -> desk.correct(0));
    }

    static void promise12_refusedKill() {
        refused(Scenes::busy, UNKNOWN, desk -> desk.kill(6));
        refused(Scenes::busy, UNKNOWN, desk -> desk.kill(-1));
        refused(Scenes::busy, NONE, desk -> desk.kill(0));
        refused(Scenes::busy, NONE, desk -> desk.kill(3));
    }

    static void promise13_refusedPass() {
        refused(Scenes::busy, BAD_VALUE, desk -> desk.pass(0));
        refused(Scenes::busy, BAD_VALUE, desk -> desk.pass(101));
        refused(Scenes::late, BAD_VALUE, desk -> desk.pass(-1));
        refused(Scenes::late, NOT_POSSIBLE, desk -> desk.pass(51));
        refused(Scenes::late, NOT_POSSIBLE, desk -> desk.pass(100));
    }

    static void promise14_refusedType() {
        refused(Scenes::fullText, FULL, desk -> desk.type('x'));
    }

    static void promise15_clearTextOfAnEmptyText() {
        changesNothing(EmbargoDesk::new, EmbargoDesk::clearText);
        changesNothing(() -> {
            EmbargoDesk desk = Scenes.busy();
            desk.clearText();
            return desk;
        }, EmbargoDesk::clearText);
    }

    static void promise16_refusedUndo() {
        refused(EmbargoDesk::new, NONE, EmbargoDesk::undo);
        refused(() -> {
            EmbargoDesk desk = Scenes.busy();
            for (int i = 0; i < 4; i++) {
                desk.undo();
            }
            return desk;
        }, NONE, EmbargoDesk::undo);
    }

    static void promise17_keepChangesNothingButTheSnapshot() {
        Supplier<EmbargoDesk> scene = () -> {
            EmbargoDesk desk = Scenes.busy();
            desk.keep();
            return desk;
        };
        changesNothing(scene, EmbargoDesk::keep);
    }

    static void promise18_refusedRestore() {
        refused(EmbargoDesk::new, NONE, EmbargoDesk::restore);
        refused(Scenes::full, NONE, EmbargoDesk::restore);
        refused(Scenes::late, NONE, EmbargoDesk::restore);
    }

    // ---- the calls that tell something, whatever they answer

    private static void tellingChangesNothing(ToIntFunction<EmbargoDesk> call) {
        changesNothing(Scenes::busy, call);
    }

    private static final int[] NUMBERS = {Integer.MIN_VALUE, -1, 0, 1, 2, 3, 4, 5, 6, 7, 8, 9, 10, 11, 12, 15, 20,
        Integer.MAX_VALUE};

    private interface Telling {
        int tell(EmbargoDesk desk, int first, int second);
    }

    private static void telling(Telling telling) {
        tellingChangesNothing(desk -> {
            for (int first : NUMBERS) {
                for (int second : NUMBERS) {
                    if ((first + second) % 3 == 0) {
                        telling.tell(desk, first, second);
                    }
                }
            }
            return 0;
        });
    }

    static void promise19_tellsAndChangesNothing() {
        telling(EmbargoDesk::story);
    }

    static void promise20_tellsAndChangesNothing() {
        telling(EmbargoDesk::byline);
    }

    static void promise21_tellsAndChangesNothing() {
        telling(EmbargoDesk::slugChar);
    }

    static void promise22_tellsAndChangesNothing() {
        telling(EmbargoDesk::correction);
    }

    static void promise23_tellsAndChangesNothing() {
        telling(EmbargoDesk::client);
    }

    static void promise24_tellsAndChangesNothing() {
        telling(EmbargoDesk::person);
    }

    static void promise25_tellsAndChangesNothing() {
        telling((desk, what, client) -> desk.copy(2, client, what));
        telling((desk, story, client) -> desk.copy(story, client, 0));
    }

    static void promise26_tellsAndChangesNothing() {
        telling((desk, place, unused) -> desk.copyAt(place));
    }

    static void promise27_tellsAndChangesNothing() {
        telling(EmbargoDesk::carriedIn);
        changesNothing(Scenes::full, desk -> desk.carriedIn(19, 7));
    }

    static void promise28_tellsAndChangesNothing() {
        telling(EmbargoDesk::wouldCome);
        changesNothing(Scenes::full, desk -> desk.wouldCome(7, 100));
        changesNothing(Scenes::late, desk -> desk.wouldCome(0, 100));
    }

    static void promise29_tellsAndChangesNothing() {
        telling(EmbargoDesk::event);
    }

    static void promise30_tellsAndChangesNothing() {
        telling((desk, what, unused) -> desk.count(what));
    }
}
