/** Promises 16 to 18: undo, keep, restore, and which calls are acts. */
public final class HistoryTest {
    private static final Check CHECK = new Check("HistoryTest");

    public static void main(String[] args) {
        undoGoesBackFourStates();
        undoBringsBackAll();
        keepIsNoAct();
        restoreIsAnAct();
        snapshotIsReplaced();
        CHECK.end();
    }

    private static void undoGoesBackFourStates() {
        EmbargoDesk desk = new EmbargoDesk();
        CHECK.due("empty", desk.undo(), EmbargoDesk.NONE);
        for (int hours = 1; hours <= 7; hours++) {
            desk.pass(hours);
            CHECK.due("states", desk.count(13), Math.min(hours, 4));
        }
        CHECK.due("hour", desk.count(0), 28);
        int[] hours = {21, 15, 10, 6};
        for (int i = 0; i < 4; i++) {
            CHECK.due("undo", desk.undo(), 3 - i);
            CHECK.due("hour", desk.count(0), hours[i]);
            CHECK.due("states", desk.count(13), 3 - i);
        }
        CHECK.due("no more", desk.undo(), EmbargoDesk.NONE);
        CHECK.due("hour", desk.count(0), 6);
        desk.pass(1);
        desk.pass(1);
        CHECK.due("undo of new ones", desk.undo(), 1);
        desk.pass(5);
        CHECK.due("hour", desk.count(0), 12);
        CHECK.due("undo", desk.undo(), 1);
        CHECK.due("undo", desk.undo(), 0);
        CHECK.due("hour", desk.count(0), 6);
    }

    private static EmbargoDesk busyDesk() {
        EmbargoDesk desk = new EmbargoDesk();
        desk.addClient(255, 0, 4, 2, 1000000001);
        desk.addClient(3, 2, 1, 9, 10);
        Desks.release(desk, "0 1,2,3 @0 a");
        Desks.release(desk, "1 2 @1 bc");
        Desks.release(desk, "0 3 @2 def");
        Desks.release(desk, "2 4,5 @30 ghij");
        Desks.read(desk, "2 6,5 @30 k");
        desk.pass(5);
        desk.correct(1);
        desk.kill(2);
        desk.pass(1);
        return desk;
    }

    /** Does the act with a number; the text of a new story stands typed already. */
    private static int act(EmbargoDesk desk, int number) {
        switch (number) {
            case 0: return desk.addClient(9, 1, 2, 3, 4);
            case 1: return desk.setTopics(0, 7);
            case 2: return desk.setUp(0, false);
            case 3: return desk.setUse(1);
            case 4: return desk.pay(1, 10);
            case 5: return desk.readStory();
            case 6: return desk.release(4);
            case 7: return desk.hold(3);
            case 8: return desk.setEmbargo(3, 400);
            case 9: return desk.correct(0);
            case 10: return desk.kill(1);
            case 11: return desk.pass(60);
            default: return desk.restore();
        }
    }

    private static void undoBringsBackAll() {
        for (int number = 0; number <= 12; number++) {
            EmbargoDesk desk = busyDesk();
            if (number == 12) {
                desk.keep();
                desk.pass(30);
            }
            String before = Desks.tellAll(desk);
            CHECK.holds("act " + number + " is done", act(desk, number) >= 0);
            CHECK.holds("act " + number + " changes what is told", !before.equals(Desks.tellAll(desk)));
            CHECK.due("undo of act " + number, desk.undo(), 3);
            CHECK.holds("undo brings back all before act " + number, before.equals(Desks.tellAll(desk)));
            desk.pass(40);
            EmbargoDesk other = busyDesk();
            if (number == 12) {
                other.pass(30);
            }
            other.pass(40);
            CHECK.holds("and goes on as if it had not been", Desks.tellAll(other).equals(Desks.tellAll(desk)));
        }
    }

    private static void keepIsNoAct() {
        EmbargoDesk desk = new EmbargoDesk();
        desk.pass(3);
        CHECK.due("keep", desk.keep(), 3);
        CHECK.due("states", desk.count(13), 1);
        CHECK.due("undo", desk.undo(), 0);
        CHECK.due("the snapshot stays", desk.restore(), 3);
        CHECK.due("restore is an act", desk.count(13), 1);
    }

    private static void restoreIsAnAct() {
        EmbargoDesk empty = new EmbargoDesk();
        empty.pass(1);
        CHECK.due("no snapshot", empty.restore(), EmbargoDesk.NONE);
        CHECK.due("states", empty.count(13), 1);

        EmbargoDesk desk = busyDesk();
        String kept = Desks.tellAll(desk);
        CHECK.due("keep", desk.keep(), 6);
        desk.pass(100);
        desk.kill(0);
        String later = Desks.tellAll(desk);
        CHECK.due("restore", desk.restore(), 6);
        CHECK.due("states", desk.count(13), 4);
        CHECK.holds("all is as it was kept", kept.equals(Desks.tellAll(desk)));
        CHECK.due("undo", desk.undo(), 3);
        CHECK.holds("all is as it was before", later.equals(Desks.tellAll(desk)));
        CHECK.due("restore again", desk.restore(), 6);
        desk.pass(1);
        CHECK.due("and again", desk.restore(), 6);
        CHECK.holds("the snapshot has not changed", kept.equals(Desks.tellAll(desk)));
    }

    private static void snapshotIsReplaced() {
        EmbargoDesk desk = new EmbargoDesk();
        CHECK.due("keep", desk.keep(), 0);
        desk.pass(9);
        CHECK.due("keep", desk.keep(), 9);
        desk.pass(9);
        CHECK.due("restore", desk.restore(), 9);
        desk.undo();
        desk.undo();
        CHECK.due("hour", desk.count(0), 9);
        CHECK.due("undo leaves the snapshot", desk.restore(), 9);
    }
}
