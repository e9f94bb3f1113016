/** Promises 19 to 30: story, byline, slugChar, correction, client, person, copy, copyAt, carriedIn, wouldCome, event, count. */
public final class ToldTest {
    private static final int UNKNOWN = EmbargoDesk.UNKNOWN;
    private static final int BAD_VALUE = EmbargoDesk.BAD_VALUE;
    private static final int NONE = EmbargoDesk.NONE;
    private static final int MOST = Integer.MAX_VALUE;
    private static final int LEAST = Integer.MIN_VALUE;

    private static final Check CHECK = new Check("ToldTest");

    public static void main(String[] args) {
        story();
        places();
        client();
        person();
        copy();
        copyOfADownClient();
        copyThatIsNotInUse();
        copyAt();
        carriedIn();
        carriedInTimeToTheEnd();
        carriedInRefuses();
        wouldCome();
        wouldComeRefuses();
        whatWillBeChangesNothing();
        event();
        count();
        CHECK.end();
    }

    private static void story() {
        EmbargoDesk desk = new EmbargoDesk();
        desk.addClient(255, 0, 0, 9, 0);
        desk.addClient(255, 0, 8, 9, 0);
        desk.addClient(255, 9, 0, 9, 0);
        Desks.release(desk, "5 3,1 @2 slug");
        desk.pass(2);
        desk.correct(0);
        desk.pass(1);
        int[] told = {5, 2, 2, 2, 1, 2, NONE, 4, 3, 2, 1};
        for (int what = 0; what <= 10; what++) {
            CHECK.due("story(0, " + what + ")", desk.story(0, what), told[what]);
        }
        desk.setUp(1, false);
        desk.pass(6);
        CHECK.due("one in use has its version", desk.story(0, 10), 1);
        desk.setUp(1, true);
        desk.pass(1);
        CHECK.due("two have it, the planned one not", desk.story(0, 10), 2);
        desk.undo();
        desk.undo();
        desk.undo();
        desk.kill(0);
        desk.pass(1);
        int[] then = {5, 2, 2, 3, 1, 2, 3, 4, 3, 1, 0};
        for (int what = 0; what <= 10; what++) {
            CHECK.due("story(0, " + what + ") of a killed one", desk.story(0, what), then[what]);
        }
        CHECK.due("what 11", desk.story(0, 11), BAD_VALUE);
        CHECK.due("what -1", desk.story(0, -1), BAD_VALUE);
        CHECK.due("what least", desk.story(0, LEAST), BAD_VALUE);
        CHECK.due("what most", desk.story(0, MOST), BAD_VALUE);
        CHECK.due("story 1", desk.story(1, 11), UNKNOWN);
        CHECK.due("story -1", desk.story(-1, 0), UNKNOWN);
        CHECK.due("story least", desk.story(LEAST, 0), UNKNOWN);
        CHECK.due("story most", desk.story(MOST, 0), UNKNOWN);
    }

    private static void places() {
        EmbargoDesk desk = new EmbargoDesk();
        Desks.release(desk, "5 3,1 @0 az");
        desk.pass(4);
        desk.correct(0);
        desk.pass(3);
        desk.correct(0);
        int[] persons = {3, 1, NONE, NONE};
        int[] letters = {'a', 'z', NONE, NONE};
        int[] hours = {4, 7, NONE, NONE};
        for (int place = 0; place < 4; place++) {
            CHECK.due("byline(0, " + place + ")", desk.byline(0, place), persons[place]);
            CHECK.due("slugChar(0, " + place + ")", desk.slugChar(0, place), letters[place]);
            CHECK.due("correction(0, " + place + ")", desk.correction(0, place), hours[place]);
        }
        int[][] asked = {{0, -1, BAD_VALUE}, {0, LEAST, BAD_VALUE}, {0, MOST, NONE}, {0, 12, NONE}, {1, 0, UNKNOWN},
            {1, -1, UNKNOWN}, {-1, 0, UNKNOWN}, {20, 0, UNKNOWN}, {MOST, MOST, UNKNOWN}, {LEAST, LEAST, UNKNOWN}};
        for (int[] row : asked) {
            CHECK.due("byline(" + row[0] + ", " + row[1] + ")", desk.byline(row[0], row[1]), row[2]);
            CHECK.due("slugChar(" + row[0] + ", " + row[1] + ")", desk.slugChar(row[0], row[1]), row[2]);
            CHECK.due("correction(" + row[0] + ", " + row[1] + ")", desk.correction(row[0], row[1]), row[2]);
        }
        desk.kill(0);
        CHECK.due("a killed one keeps its corrections", desk.correction(0, 1), 7);
    }

    private static void client() {
        EmbargoDesk desk = new EmbargoDesk();
        desk.addClient(6, 1, 2, 3, 1500000000);
        for (int i = 0; i < 5; i++) {
            Desks.release(desk, "1 1 @0 a");
        }
        desk.pass(2);
        desk.setUse(1);
        desk.pass(22);
        desk.kill(3);
        desk.pass(2);
        // Three came at hour 2 and ended at hour 26; two came at hour 24, one of which is withdrawn.
        int[] told = {6, 1, 2, 3, 1500000000, 1, 1500000000, 2, 5, 1, 4};
        for (int what = 0; what <= 10; what++) {
            CHECK.due("client(0, " + what + ")", desk.client(0, what), told[what]);
        }
        desk.setUp(0, false);
        CHECK.due("down", desk.client(0, 5), 0);
        CHECK.due("what 11", desk.client(0, 11), BAD_VALUE);
        CHECK.due("what -1", desk.client(0, -1), BAD_VALUE);
        CHECK.due("client 1", desk.client(1, 11), UNKNOWN);
        CHECK.due("client -1", desk.client(-1, 0), UNKNOWN);
        CHECK.due("client 8", desk.client(8, 0), UNKNOWN);
        CHECK.due("client most", desk.client(MOST, 0), UNKNOWN);
        CHECK.due("client least", desk.client(LEAST, 0), UNKNOWN);
    }

    private static void person() {
        EmbargoDesk desk = new EmbargoDesk();
        desk.addClient(255, 0, 0, 9, 10);
        desk.addClient(1, 0, 0, 9, 7);
        Desks.release(desk, "0 0,9 @0 a");
        Desks.release(desk, "1 9 @0 a");
        Desks.read(desk, "0 9,0,4 @0 a");
        desk.pass(1);
        int[][] told = {{0, 5 + 4, 0, 2, 2}, {9, 5 + 3 + 10, 0, 3, 3}, {4, 0, 0, 1, 0}, {5, 0, 0, 0, 0}};
        for (int[] row : told) {
            for (int what = 0; what <= 3; what++) {
                CHECK.due("person(" + row[0] + ", " + what + ")", desk.person(row[0], what), row[what + 1]);
            }
        }
        desk.kill(1);
        CHECK.due("a killed story counts", desk.person(9, 2), 3);
        desk.pass(1);
        CHECK.due("its copies are not in use", desk.person(9, 3), 2);
        CHECK.due("what 4", desk.person(0, 4), BAD_VALUE);
        CHECK.due("what -1", desk.person(0, -1), BAD_VALUE);
        CHECK.due("person 10", desk.person(10, 4), UNKNOWN);
        CHECK.due("person -1", desk.person(-1, 0), UNKNOWN);
        CHECK.due("person most", desk.person(MOST, 0), UNKNOWN);
        CHECK.due("person least", desk.person(LEAST, 0), UNKNOWN);
    }

    private static void tellCopy(EmbargoDesk desk, int story, int client, int... told) {
        for (int what = 0; what <= 8; what++) {
            CHECK.due("copy(" + story + ", " + client + ", " + what + ") at hour " + desk.count(0),
                desk.copy(story, client, what), told[what]);
        }
    }

    private static void copy() {
        EmbargoDesk desk = new EmbargoDesk();
        desk.addClient(1, 2, 5, 9, 0);
        desk.addClient(1, 0, 3, 9, 0);
        Desks.release(desk, "0 1 @0 a");
        Desks.read(desk, "1 1 @0 b");
        desk.pass(1);
        tellCopy(desk, 0, 0, 0, 3, NONE, NONE, 0, 0, NONE, NONE, NONE);
        desk.correct(0);
        tellCopy(desk, 0, 0, 0, 3, NONE, NONE, 0, 0, NONE, NONE, NONE);
        tellCopy(desk, 0, 1, 1, 1, 1, 0, 1, 0, 4, NONE, 73);
        desk.pass(2);
        desk.correct(0);
        tellCopy(desk, 0, 0, 1, 3, 3, 1, 1, 0, 8, NONE, 75);
        tellCopy(desk, 0, 1, 1, 1, 1, 0, 2, 0, 4, NONE, 73);
        desk.pass(1);
        tellCopy(desk, 0, 1, 1, 1, 1, 1, 1, 0, 6, NONE, 73);
        desk.kill(0);
        tellCopy(desk, 0, 0, 1, 3, 3, 1, 1, 0, 8, 6, 75);
        tellCopy(desk, 0, 1, 1, 1, 1, 1, 1, 0, 6, 5, 73);
        CHECK.due("what 9", desk.copy(0, 0, 9), BAD_VALUE);
        CHECK.due("what -1", desk.copy(0, 0, -1), BAD_VALUE);
        CHECK.due("no such copy", desk.copy(1, 0, 0), UNKNOWN);
        CHECK.due("no such copy, bad value", desk.copy(1, 0, 9), UNKNOWN);
        CHECK.due("story 2", desk.copy(2, 0, 0), UNKNOWN);
        CHECK.due("client 2", desk.copy(0, 2, 9), UNKNOWN);
        CHECK.due("story -1", desk.copy(-1, 0, 0), UNKNOWN);
        CHECK.due("client -1", desk.copy(0, -1, 0), UNKNOWN);
        CHECK.due("most", desk.copy(MOST, MOST, MOST), UNKNOWN);
        CHECK.due("least", desk.copy(LEAST, LEAST, LEAST), UNKNOWN);
    }

    private static void copyOfADownClient() {
        EmbargoDesk desk = Desks.withCopyInUse(2, 0);
        desk.setUp(0, false);
        desk.correct(0);
        desk.correct(0);
        desk.pass(1);
        desk.correct(0);
        tellCopy(desk, 0, 0, 1, 1, 1, 0, 3, 0, 3, NONE, 73);
        CHECK.due("none is due", desk.count(9), 0);
        desk.pass(1);
        tellCopy(desk, 0, 0, 1, 1, 1, 0, 3, 2, 3, NONE, 73);
        CHECK.due("some are due", desk.count(9), 1);
        desk.pass(1);
        tellCopy(desk, 0, 0, 1, 1, 1, 0, 3, 3, 3, NONE, 73);
        desk.kill(0);
        tellCopy(desk, 0, 0, 1, 1, 1, 0, 3, 3, 3, 5, 73);
        CHECK.due("of a killed story, too", desk.count(9), 1);
    }

    private static void copyThatIsNotInUse() {
        EmbargoDesk ended = Desks.withCopyInUse(24, 0);
        ended.pass(70);
        ended.correct(0);
        ended.pass(2);
        tellCopy(ended, 0, 0, 3, 1, 1, 0, 0, 0, NONE, NONE, NONE);
        ended.kill(0);
        tellCopy(ended, 0, 0, 3, 1, 1, 0, 0, 0, NONE, NONE, NONE);
        EmbargoDesk withdrawn = Desks.withCopyInUse(0, 0);
        withdrawn.correct(0);
        withdrawn.pass(1);
        withdrawn.kill(0);
        withdrawn.pass(1);
        tellCopy(withdrawn, 0, 0, 2, 1, 1, 1, 0, 0, NONE, NONE, NONE);
        EmbargoDesk dropped = new EmbargoDesk();
        dropped.addClient(1, 9, 0, 1, 0);
        Desks.release(dropped, "0 1 @0 a");
        dropped.pass(1);
        dropped.kill(0);
        tellCopy(dropped, 0, 0, 0, 10, NONE, NONE, 0, 0, NONE, NONE, NONE);
        dropped.pass(1);
        tellCopy(dropped, 0, 0, 4, 10, NONE, NONE, 0, 0, NONE, NONE, NONE);
    }

    private static void copyAt() {
        EmbargoDesk desk = new EmbargoDesk();
        for (int client = 0; client < 8; client++) {
            desk.addClient(255, 0, 0, 9, 0);
        }
        Desks.type(desk, "0 1 @0 a");
        for (int story = 0; story < 20; story++) {
            desk.readStory();
        }
        for (int story = 19; story >= 0; story--) {
            desk.release(story);
            if (story % 5 == 0) {
                desk.pass(1);
            }
        }
        CHECK.due("copies", desk.count(3), 160);
        CHECK.due("copyAt(0)", desk.copyAt(0), 150);
        CHECK.due("copyAt(39)", desk.copyAt(39), 197);
        CHECK.due("copyAt(40)", desk.copyAt(40), 100);
        CHECK.due("copyAt(159)", desk.copyAt(159), 47);
        CHECK.due("copyAt(160)", desk.copyAt(160), NONE);
        CHECK.due("copyAt(most)", desk.copyAt(MOST), NONE);
        CHECK.due("copyAt(-1)", desk.copyAt(-1), BAD_VALUE);
        CHECK.due("copyAt(least)", desk.copyAt(LEAST), BAD_VALUE);
        desk.kill(15);
        desk.pass(1);
        CHECK.due("a withdrawn copy keeps its place", desk.copyAt(0), 150);
    }

    private static void carriedIn() {
        EmbargoDesk desk = Desks.withCopyInUse(6, 0);
        CHECK.due("it does now", desk.carriedIn(0, 0), 0);
        desk.correct(0);
        CHECK.due("behind the lag", desk.carriedIn(0, 0), 6);
        desk.pass(2);
        CHECK.due("4 hours more", desk.carriedIn(0, 0), 4);
        desk.correct(0);
        CHECK.due("all of them", desk.carriedIn(0, 0), 6);
        desk.setUp(0, false);
        CHECK.due("down", desk.carriedIn(0, 0), NONE);
        desk.setUp(0, true);
        desk.setUse(1);
        desk.pass(6);
        CHECK.due("both", desk.copy(0, 0, 3), 2);
        desk.pass(11);
        desk.correct(0);
        CHECK.due("hour 20: its use ends at 25", desk.carriedIn(0, 0), NONE);
        desk.setUse(2);
        CHECK.due("its use ends at 49", desk.carriedIn(0, 0), 6);
        desk.kill(0);
        CHECK.due("withdrawn before", desk.carriedIn(0, 0), NONE);
    }

    private static void carriedInTimeToTheEnd() {
        EmbargoDesk planned = new EmbargoDesk();
        planned.addClient(255, 10, 24, 1, 0);
        planned.addClient(1, 48, 0, 9, 0);
        Desks.release(planned, "0 1 @0 a");
        Desks.release(planned, "1 1 @0 b");
        planned.pass(1);
        CHECK.due("a planned copy", planned.carriedIn(0, 0), 10);
        planned.correct(0);
        CHECK.due("comes with all corrections", planned.carriedIn(0, 0), 10);
        CHECK.due("behind the daily limit", planned.carriedIn(1, 0), 23);
        CHECK.due("behind another delay", planned.carriedIn(0, 1), 48);
        planned.kill(0);
        CHECK.due("is dropped", planned.carriedIn(0, 0), NONE);

        EmbargoDesk far = new EmbargoDesk();
        far.addClient(255, 0, 0, 1, 0);
        for (int story = 0; story < 6; story++) {
            Desks.release(far, "0 1 @0 a");
        }
        far.pass(20);
        CHECK.due("hour 96", far.carriedIn(4, 0), 76);
        CHECK.due("hour 120, exactly 100", far.carriedIn(5, 0), 100);
        far.undo();
        far.pass(19);
        CHECK.due("hour 120, 101", far.carriedIn(5, 0), NONE);
        far.pass(80);
        CHECK.due("an ended copy", far.carriedIn(0, 0), NONE);

        EmbargoDesk ending = Desks.withCopyInUse(24, 0);
        ending.setUse(2);
        ending.pass(24);
        ending.correct(0);
        CHECK.due("due in the hour in which the use ends", ending.carriedIn(0, 0), NONE);
        ending.undo();
        ending.undo();
        ending.pass(23);
        ending.correct(0);
        CHECK.due("due an hour before", ending.carriedIn(0, 0), 24);
    }

    private static void carriedInRefuses() {
        EmbargoDesk desk = Desks.withCopyInUse(0, 0);
        Desks.read(desk, "0 1 @0 b");
        desk.addClient(1, 0, 0, 1, 0);
        CHECK.due("no such copy", desk.carriedIn(1, 0), UNKNOWN);
        CHECK.due("no copy for this client", desk.carriedIn(0, 1), UNKNOWN);
        CHECK.due("story 2", desk.carriedIn(2, 0), UNKNOWN);
        CHECK.due("client 2", desk.carriedIn(0, 2), UNKNOWN);
        CHECK.due("story -1", desk.carriedIn(-1, 0), UNKNOWN);
        CHECK.due("client -1", desk.carriedIn(0, -1), UNKNOWN);
        CHECK.due("most", desk.carriedIn(MOST, MOST), UNKNOWN);
        CHECK.due("least", desk.carriedIn(LEAST, LEAST), UNKNOWN);
    }

    private static void wouldCome() {
        EmbargoDesk desk = new EmbargoDesk();
        desk.addClient(1, 0, 0, 2, 0);
        desk.addClient(3, 30, 0, 9, 0);
        for (int story = 0; story < 5; story++) {
            Desks.release(desk, "0 1 @20 a");
        }
        Desks.release(desk, "1 1 @40 b");
        CHECK.due("19 hours", desk.wouldCome(0, 19), 0);
        CHECK.due("20 hours", desk.wouldCome(0, 20), 2);
        CHECK.due("24 hours", desk.wouldCome(0, 24), 4);
        CHECK.due("100 hours", desk.wouldCome(0, 100), 5);
        CHECK.due("49 hours", desk.wouldCome(1, 49), 0);
        CHECK.due("50 hours", desk.wouldCome(1, 50), 5);
        CHECK.due("70 hours", desk.wouldCome(1, 70), 6);
        desk.pass(20);
        CHECK.due("3 hours", desk.wouldCome(0, 3), 0);
        CHECK.due("4 hours", desk.wouldCome(0, 4), 2);
        desk.setUp(0, false);
        CHECK.due("down", desk.wouldCome(0, 100), 0);
    }

    private static void wouldComeRefuses() {
        EmbargoDesk desk = new EmbargoDesk();
        CHECK.due("unknown, bad value", desk.wouldCome(0, 0), UNKNOWN);
        desk.addClient(1, 0, 0, 2, 0);
        CHECK.due("1 hour", desk.wouldCome(0, 1), 0);
        CHECK.due("0 hours", desk.wouldCome(0, 0), BAD_VALUE);
        CHECK.due("-1 hours", desk.wouldCome(0, -1), BAD_VALUE);
        CHECK.due("101 hours", desk.wouldCome(0, 101), BAD_VALUE);
        CHECK.due("most hours", desk.wouldCome(0, MOST), BAD_VALUE);
        CHECK.due("client -1", desk.wouldCome(-1, 1), UNKNOWN);
        CHECK.due("client 1", desk.wouldCome(1, 1), UNKNOWN);
        for (int i = 0; i < 99; i++) {
            desk.pass(100);
        }
        Desks.release(desk, "0 1 @0 a");
        CHECK.due("hours behind the last one may be looked at", desk.wouldCome(0, 100), 1);
    }

    private static void whatWillBeChangesNothing() {
        EmbargoDesk desk = new EmbargoDesk();
        desk.addClient(1, 0, 3, 2, 70);
        desk.addClient(3, 30, 4, 9, 80);
        Desks.release(desk, "0 1 @0 a");
        Desks.release(desk, "1 1,2 @20 a");
        desk.pass(4);
        desk.correct(0);
        desk.keep();
        String before = Desks.tellAll(desk);
        int history = desk.count(13);
        desk.wouldCome(0, 100);
        desk.carriedIn(0, 0);
        desk.carriedIn(0, 1);
        CHECK.holds("all is as before", before.equals(Desks.tellAll(desk)));
        CHECK.due("history", desk.count(13), history);
        desk.restore();
        CHECK.holds("and so is the snapshot", before.equals(Desks.tellAll(desk)));
    }

    private static void event() {
        EmbargoDesk desk = Desks.withCopyInUse(0, 0);
        CHECK.due("the latest", desk.event(0, 0), 1);
        CHECK.due("the one before", desk.event(1, 0), 0);
        CHECK.due("no third one", desk.event(2, 0), NONE);
        CHECK.due("back -1", desk.event(-1, 0), BAD_VALUE);
        CHECK.due("back least", desk.event(LEAST, 0), BAD_VALUE);
        CHECK.due("back most", desk.event(MOST, 0), NONE);
        CHECK.due("what 4", desk.event(0, 4), BAD_VALUE);
        CHECK.due("what -1", desk.event(0, -1), BAD_VALUE);
        CHECK.due("what 4 of none", desk.event(2, 4), BAD_VALUE);
        for (int k = 0; k < 6; k++) {
            desk.correct(0);
            desk.pass(1);
        }
        desk.kill(0);
        int[] kinds = {6, 2, 5, 2, 5, 2, 5, 2, 5, 2, 5, 2};
        int[] clients = {NONE, 0, NONE, 0, NONE, 0, NONE, 0, NONE, 0, NONE, 0};
        int[] hours = {7, 7, 6, 6, 5, 5, 4, 4, 3, 3, 2, 2};
        for (int back = 0; back < 12; back++) {
            CHECK.due("kind of " + back, desk.event(back, 0), kinds[back]);
            CHECK.due("story of " + back, desk.event(back, 1), 0);
            CHECK.due("client of " + back, desk.event(back, 2), clients[back]);
            CHECK.due("hour of " + back, desk.event(back, 3), hours[back]);
        }
        CHECK.due("the thirteenth", desk.event(12, 0), NONE);
        desk.undo();
        CHECK.due("undo takes the event back", desk.event(0, 0), 2);
    }

    private static void count() {
        EmbargoDesk desk = new EmbargoDesk();
        desk.addClient(255, 0, 2, 9, 0);
        desk.addClient(1, 0, 2, 9, 0);
        desk.addClient(1, 40, 2, 9, 0);
        Desks.release(desk, "0 1,2 @0 a");
        Desks.release(desk, "0 2,3 @0 a");
        Desks.release(desk, "1 9 @0 a");
        Desks.read(desk, "2 9,7 @0 a");
        desk.pass(1);
        desk.kill(1);
        desk.setUp(1, false);
        desk.correct(0);
        desk.pass(3);
        desk.setUse(1);
        Desks.type(desk, "abc");
        // Copies: 0/0 and 2/0 in use, 0/1 in use with a correction due, 1/1 in use with a killed story,
        // 0/2 planned, 1/0 withdrawn, 1/2 dropped.
        int[] told = {4, 3, 4, 7, 1, 4, 1, 0, 1, 1, 1, 5, 1, 4, 3};
        for (int what = 0; what <= 14; what++) {
            CHECK.due("count(" + what + ")", desk.count(what), told[what]);
        }
        desk.pass(21);
        int[] then = {25, 3, 4, 7, 1, 0, 1, 4, 1, 0, 1, 5, 1, 4, 3};
        for (int what = 0; what <= 14; what++) {
            CHECK.due("count(" + what + ") then", desk.count(what), then[what]);
        }
        CHECK.due("what 15", desk.count(15), BAD_VALUE);
        CHECK.due("what -1", desk.count(-1), BAD_VALUE);
        CHECK.due("what most", desk.count(MOST), BAD_VALUE);
        CHECK.due("what least", desk.count(LEAST), BAD_VALUE);
    }
}
