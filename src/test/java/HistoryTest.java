/** Promises 16 to 18: undo, keep, restore, and which calls are acts. */
public final class HistoryTest {
    private static final Check CHECK = new Check("HistoryTest");

    public static void main(String[] args) {
        undoGoesBackFourStates();
        undoBringsBackAll();
        keepIsNoAct();
        restoreIsAnAct();
        snapshotIsReplaced();
        restoreBringsBackOtherStories();
        undoBringsBackSumsAndLog();
        CHECK.end();
    }

    private static void undoGoesBackFourStates() {
        EmbargoDesk desk = new EmbargoDesk();
        CHECK.due("empty", desk.undo(), EmbargoDesk.NONE);
        for (int hours = 1; hours <= 7; hours++) {
            desk.pass(hours);
            CHECK.due("states", desk.count(13), Math.min(hours, 4));
        }
        CHECK.due("hour", desk.count(0), 28);
        int[] hours = {21, 15, 10, 6};
        for (int i = 0; i < 4; i++) {
            CHECK.due("undo", desk.undo(), 3 - i);
            CHECK.due("hour", desk.count(0), hours[i]);
            CHECK.due("states", desk.count(13), 3 - i);
        }
        CHECK.due("no more", desk.undo(), EmbargoDesk.NONE);
        CHECK.due("hour", desk.count(0), 6);
        desk.pass(1);
        desk.pass(1);
        CHECK.due("undo of new ones", desk.undo(), 1);
        desk.pass(5);
        CHECK.due("hour", desk.count(0), 12);
        CHECK.due("undo", desk.undo(), 1);
        CHECK.due("undo", desk.undo(), 0);
        CHECK.due("hour", desk.count(0), 6);
    }

    private static EmbargoDesk busyDesk() {
        EmbargoDesk desk = new EmbargoDesk();
        desk.addClient(255, 0, 4, 2, 1000000001);
        desk.addClient(3, 2, 1, 9, 10);
        Desks.release(desk, "0 1,2,3 @0 a");
        Desks.release(desk, "1 2 @1 bc");
        Desks.release(desk, "0 3 @2 def");
        Desks.release(desk, "2 4,5 @30 ghij");
        Desks.read(desk, "2 6,5 @30 k");
        desk.pass(5);
        desk.correct(1);
        desk.kill(2);
        desk.pass(1);
        return desk;
    }

    /** Does the act with a number; the text of a new story stands typed already. */
    private static int act(EmbargoDesk desk, int number) {
        switch (number) {
            case 0: return desk.addClient(9, 1, 2, 3, 4);
            case 1: return desk.setTopics(0, 7);
            case 2: return desk.setUp(0, false);
            case 3: return desk.setUse(1);
            case 4: return desk.pay(1, 10);
            case 5: return desk.readStory();
            case 6: return desk.release(4);
            case 7: return desk.hold(3);
            case 8: return desk.setEmbargo(3, 400);
            case 9: return desk.correct(0);
            case 10: return desk.kill(1);
            case 11: return desk.pass(60);
            default: return desk.restore();
        }
    }

    private static void undoBringsBackAll() {
        for (int number = 0; number <= 12; number++) {
            EmbargoDesk desk = busyDesk();
            if (number == 12) {
                desk.keep();
                desk.pass(30);
            }
            String before = Desks.tellAll(desk);
            CHECK.holds("act " + number + " is done", act(desk, number) >= 0);
            CHECK.holds("act " + number + " changes what is told", !before.equals(Desks.tellAll(desk)));
            CHECK.due("undo of act " + number, desk.undo(), 3);
            CHECK.holds("undo brings back all before act " + number, before.equals(Desks.tellAll(desk)));
            desk.pass(40);
            EmbargoDesk other = busyDesk();
            if (number == 12) {
                other.pass(30);
            }
            other.pass(40);
            CHECK.holds("and goes on as if it had not been", Desks.tellAll(other).equals(Desks.tellAll(desk)));
        }
    }

    private static void keepIsNoAct() {
        EmbargoDesk desk = new EmbargoDesk();
        desk.pass(3);
        CHECK.due("keep", desk.keep(), 3);
        CHECK.due("states", desk.count(13), 1);
        CHECK.due("undo", desk.undo(), 0);
        CHECK.due("the snapshot stays", desk.restore(), 3);
        CHECK.due("restore is an act", desk.count(13), 1);
    }

    private static void restoreIsAnAct() {
        EmbargoDesk empty = new EmbargoDesk();
        empty.pass(1);
        CHECK.due("no snapshot", empty.restore(), EmbargoDesk.NONE);
        CHECK.due("states", empty.count(13), 1);

        EmbargoDesk desk = busyDesk();
        String kept = Desks.tellAll(desk);
        CHECK.due("keep", desk.keep(), 6);
        desk.pass(100);
        desk.kill(0);
        String later = Desks.tellAll(desk);
        CHECK.due("restore", desk.restore(), 6);
        CHECK.due("states", desk.count(13), 4);
        CHECK.holds("all is as it was kept", kept.equals(Desks.tellAll(desk)));
        CHECK.due("undo", desk.undo(), 3);
        CHECK.holds("all is as it was before", later.equals(Desks.tellAll(desk)));
        CHECK.due("restore again", desk.restore(), 6);
        desk.pass(1);
        CHECK.due("and again", desk.restore(), 6);
        CHECK.holds("the snapshot has not changed", kept.equals(Desks.tellAll(desk)));
    }

    private static void snapshotIsReplaced() {
        EmbargoDesk desk = new EmbargoDesk();
        CHECK.due("keep", desk.keep(), 0);
        desk.pass(9);
        CHECK.due("keep", desk.keep(), 9);
        desk.pass(9);
        CHECK.due("restore", desk.restore(), 9);
        desk.undo();
        desk.undo();
        CHECK.due("hour", desk.count(0), 9);
        CHECK.due("undo leaves the snapshot", desk.restore(), 9);
    }

    /** The same numbers stand for other stories and clients in the snapshot and in the present state. */
    private static void restoreBringsBackOtherStories() {
        EmbargoDesk desk = new EmbargoDesk();
        desk.keep();
        desk.addClient(3, 1, 2, 3, 4);
        desk.addClient(5, 6, 7, 8, 9);
        Desks.release(desk, "0 1,0 @1 abc");
        Desks.release(desk, "2 3 @0 d");
        desk.pass(10);
        desk.correct(0);
        String first = Desks.tellAll(desk);
        EmbargoDesk twin = new EmbargoDesk();
        twin.addClient(1, 0, 0, 9, 1000);
        Desks.release(twin, "0 7,8,9 @0 xyzxyz");
        twin.pass(3);
        twin.kill(0);
        String second = Desks.tellAll(twin);

        desk.restore();
        desk.addClient(1, 0, 0, 9, 1000);
        Desks.release(desk, "0 7,8,9 @0 xyzxyz");
        desk.pass(3);
        desk.kill(0);
        CHECK.holds("nothing is left of what was", second.equals(Desks.tellAll(desk)));
        desk.keep();
        desk.restore();
        CHECK.holds("the snapshot holds it", second.equals(Desks.tellAll(desk)));

        EmbargoDesk other = new EmbargoDesk();
        other.keep();
        other.addClient(1, 0, 0, 9, 1000);
        Desks.release(other, "0 7,8,9 @0 xyzxyz");
        other.restore();
        other.addClient(3, 1, 2, 3, 4);
        other.addClient(5, 6, 7, 8, 9);
        Desks.release(other, "0 1,0 @1 abc");
        Desks.release(other, "2 3 @0 d");
        other.pass(10);
        other.correct(0);
        CHECK.holds("nothing is left of the others", first.equals(Desks.tellAll(other)));
        other.keep();
        for (int i = 0; i < 4; i++) {
            other.undo();
        }
        CHECK.due("one story is left", other.count(2), 1);
        Desks.read(other, "7 4 @500 q");
        CHECK.due("another second one", other.story(1, 0), 7);
        CHECK.due("restore", other.restore(), 10);
        CHECK.holds("all as it was kept", first.equals(Desks.tellAll(other)));
        CHECK.due("undo", other.undo(), 1);
        CHECK.due("the other second one again", other.story(1, 0), 7);
        CHECK.due("its person", other.byline(1, 0), 4);
        CHECK.due("its letter", other.slugChar(1, 0), 'q');
        CHECK.due("its letters", other.story(1, 7), 1);
        other.undo();
        other.addClient(255, 9, 8, 7, 6);
        other.undo();
        other.addClient(254, 8, 7, 6, 5);
        other.setUp(2, false);
        other.restore();
        other.undo();
        int[] told = {254, 8, 7, 6, 5, 0};
        for (int what = 0; what < told.length; what++) {
            CHECK.due("client(2, " + what + ")", other.client(2, what), told[what]);
        }
        otherBylinesOfOneNumber();
    }

    private static void otherBylinesOfOneNumber() {
        EmbargoDesk desk = new EmbargoDesk();
        Desks.read(desk, "0 1,2 @5 ab");
        desk.addClient(1, 0, 0, 1, 11);
        desk.keep();
        desk.undo();
        desk.undo();
        Desks.read(desk, "0 3,4,5 @6 xyz");
        desk.addClient(2, 0, 0, 1, 12);
        desk.restore();
        int[] kept = {2, 1, 2, EmbargoDesk.NONE, 5, 2, 'a', 'b', EmbargoDesk.NONE, 11};
        tellShort(desk, kept);
        desk.undo();
        int[] before = {3, 3, 4, 5, 6, 3, 'x', 'y', 'z', 12};
        tellShort(desk, before);
    }

    private static void tellShort(EmbargoDesk desk, int[] due) {
        int[] told = {desk.story(0, 1), desk.byline(0, 0), desk.byline(0, 1), desk.byline(0, 2), desk.story(0, 2),
            desk.story(0, 7), desk.slugChar(0, 0), desk.slugChar(0, 1), desk.slugChar(0, 2), desk.client(0, 4)};
        for (int i = 0; i < told.length; i++) {
            CHECK.due("part " + i + " of the story", told[i], due[i]);
        }
    }

    private static void undoBringsBackSumsAndLog() {
        EmbargoDesk desk = new EmbargoDesk();
        desk.addClient(1, 0, 0, 9, 2000000000);
        desk.addClient(1, 0, 0, 9, 2000000000);
        Desks.release(desk, "0 0 @0 a");
        Desks.release(desk, "0 0,9 @50 a");
        desk.pass(1);
        CHECK.due("got", desk.person(0, 0), 2000000000);
        CHECK.due("lost", desk.person(0, 1), 1);
        CHECK.due("persons", desk.count(11), 2);
        desk.undo();
        CHECK.due("got nothing", desk.person(0, 0), 0);
        CHECK.due("lost nothing", desk.person(0, 1), 0);
        CHECK.due("no event", desk.event(0, 0), EmbargoDesk.NONE);
        desk.keep();
        CHECK.due("would come", desk.wouldCome(0, 1), 1);
        desk.pass(1);
        CHECK.due("got once more", desk.person(0, 0), 2000000000);
        CHECK.due("lost once more", desk.person(0, 1), 1);
        desk.restore();
        CHECK.due("got nothing", desk.person(0, 0), 0);
        CHECK.due("lost nothing", desk.person(0, 1), 0);
        CHECK.due("no event", desk.event(0, 3), EmbargoDesk.NONE);
    }
}
