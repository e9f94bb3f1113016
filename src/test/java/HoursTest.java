/** Promise 13 (pass) and what the terms say of an hour: publishing, copies, corrections, kill notices, fees. */
public final class HoursTest {
    private static final Check CHECK = new Check("HoursTest");

    public static void main(String[] args) {
        passRefuses();
        passTellsCopiesThatCame();
        storiesArePublishedByNumber();
        copiesComeBehindTheDelay();
        dailyLimit();
        planned();
        correctionsFollow();
        correctionsWaitForClientsThatAreDown();
        killNotices();
        correctionsBeforeTheKillNotice();
        useEnds();
        feesAndShares();
        feesThatAreNotBilled();
        sharesThatAreLost();
        CHECK.end();
    }

    private static void passRefuses() {
        EmbargoDesk desk = new EmbargoDesk();
        int[] bad = {0, -1, 101, Integer.MAX_VALUE, Integer.MIN_VALUE};
        for (int hours : bad) {
            CHECK.due("pass(" + hours + ")", desk.pass(hours), EmbargoDesk.BAD_VALUE);
        }
        CHECK.due("history", desk.count(13), 0);
        for (int i = 0; i < 99; i++) {
            desk.pass(100);
        }
        CHECK.due("hour", desk.count(0), 9900);
        CHECK.due("to 10000", desk.pass(100), EmbargoDesk.NOT_POSSIBLE);
        CHECK.due("bad value at the end", desk.pass(101), EmbargoDesk.BAD_VALUE);
        CHECK.due("to 9999", desk.pass(99), 0);
        CHECK.due("hour", desk.count(0), 9999);
        CHECK.due("one more", desk.pass(1), EmbargoDesk.NOT_POSSIBLE);
        CHECK.due("hour", desk.count(0), 9999);
    }

    private static void passTellsCopiesThatCame() {
        EmbargoDesk desk = new EmbargoDesk();
        desk.addClient(1, 0, 0, 9, 0);
        desk.addClient(255, 4, 0, 9, 0);
        Desks.release(desk, "0 1 @0 a");
        Desks.release(desk, "1 1 @3 b");
        CHECK.due("hour 1", desk.pass(1), 1);
        CHECK.due("hours 2 to 4", desk.pass(3), 0);
        CHECK.due("hours 5 to 7", desk.pass(3), 2);
        CHECK.due("hours 8 to 107", desk.pass(100), 0);
    }

    private static void storiesArePublishedByNumber() {
        EmbargoDesk desk = new EmbargoDesk();
        desk.addClient(255, 1, 0, 9, 0);
        desk.addClient(255, 0, 0, 9, 0);
        Desks.release(desk, "0 1 @3 a");
        Desks.release(desk, "0 1 @2 b");
        Desks.release(desk, "0 1 @2 c");
        desk.pass(3);
        int[] order = {10, 11, 20, 21, 0, 1};
        for (int place = 0; place < order.length; place++) {
            CHECK.due("copyAt(" + place + ")", desk.copyAt(place), order[place]);
        }
        CHECK.due("published at the embargo", desk.story(0, 5), 3);
        CHECK.due("published at the embargo", desk.story(1, 5), 2);
        // Hour 3: story 0 is published before copies 10 and 20 come, which come before 1.
        int[] kinds = {1, 1, 1, 0, 1, 1, 0, 0};
        int[] stories = {0, 2, 1, 0, 2, 1, 2, 1};
        int[] clients = {1, 0, 0, EmbargoDesk.NONE, 1, 1, EmbargoDesk.NONE, EmbargoDesk.NONE};
        for (int back = 0; back < kinds.length; back++) {
            CHECK.due("kind of event " + back, desk.event(back, 0), kinds[back]);
            CHECK.due("story of event " + back, desk.event(back, 1), stories[back]);
            CHECK.due("client of event " + back, desk.event(back, 2), clients[back]);
            CHECK.due("hour of event " + back, desk.event(back, 3), back < 4 ? 3 : 2);
        }
        CHECK.due("no more events", desk.event(kinds.length, 0), EmbargoDesk.NONE);
    }

    private static void copiesComeBehindTheDelay() {
        EmbargoDesk desk = new EmbargoDesk();
        desk.addClient(255, 48, 0, 9, 0);
        Desks.release(desk, "0 1 @1 a");
        desk.pass(48);
        CHECK.due("planned", desk.copy(0, 0, 0), 0);
        CHECK.due("due at", desk.copy(0, 0, 1), 49);
        CHECK.due("came at", desk.copy(0, 0, 2), EmbargoDesk.NONE);
        CHECK.due("version", desk.copy(0, 0, 3), EmbargoDesk.NONE);
        desk.correct(0);
        desk.correct(0);
        CHECK.due("it comes", desk.pass(1), 1);
        CHECK.due("in use", desk.copy(0, 0, 0), 1);
        CHECK.due("came at", desk.copy(0, 0, 2), 49);
        CHECK.due("with the version of then", desk.copy(0, 0, 3), 2);
        CHECK.due("corrections that it got", desk.count(10), 0);
    }

    private static void dailyLimit() {
        EmbargoDesk desk = new EmbargoDesk();
        desk.addClient(255, 0, 0, 2, 0);
        for (int i = 0; i < 5; i++) {
            Desks.release(desk, "0 1 @20 a");
        }
        desk.pass(20);
        CHECK.due("today", desk.client(0, 7), 2);
        CHECK.due("the first came", desk.copy(1, 0, 0), 1);
        CHECK.due("the third waits", desk.copy(2, 0, 0), 0);
        desk.pass(3);
        CHECK.due("until hour 23", desk.client(0, 8), 2);
        CHECK.due("hour 24", desk.pass(1), 2);
        CHECK.due("today", desk.client(0, 7), 2);
        CHECK.due("all", desk.client(0, 8), 4);
        CHECK.due("hours 25 to 47", desk.pass(23), 0);
        CHECK.due("hour 48", desk.pass(1), 1);
        CHECK.due("today", desk.client(0, 7), 1);
        desk.pass(24);
        CHECK.due("none on the next day", desk.client(0, 7), 0);
        CHECK.due("all", desk.client(0, 8), 5);
    }

    private static void planned() {
        EmbargoDesk desk = new EmbargoDesk();
        desk.addClient(255, 3, 0, 9, 0);
        desk.addClient(255, 0, 0, 9, 0);
        Desks.release(desk, "0 1 @0 a");
        Desks.release(desk, "0 1 @0 b");
        desk.setUp(1, false);
        desk.pass(1);
        desk.kill(0);
        CHECK.due("planned yet", desk.copy(0, 0, 0), 0);
        CHECK.due("one hour", desk.pass(1), 0);
        CHECK.due("dropped before it is due", desk.copy(0, 0, 0), 4);
        CHECK.due("dropped though it is due and the client down", desk.copy(0, 1, 0), 4);
        CHECK.due("down clients wait", desk.copy(1, 1, 0), 0);
        desk.setUp(1, true);
        CHECK.due("still planned", desk.copy(1, 1, 0), 0);
        CHECK.due("then it comes", desk.pass(1), 1);
        CHECK.due("came at", desk.copy(1, 1, 2), 3);
        CHECK.due("due at", desk.copy(1, 1, 1), 1);
        CHECK.due("dropped ones", desk.count(8), 2);
        CHECK.due("no event tells of dropping", desk.event(1, 0), 6);
        CHECK.due("came at of a dropped one", desk.copy(0, 0, 2), EmbargoDesk.NONE);
        CHECK.due("version of a dropped one", desk.copy(0, 0, 3), EmbargoDesk.NONE);
    }

    private static void correctionsFollow() {
        EmbargoDesk desk = Desks.withCopyInUse(4, 0);
        desk.correct(0);
        desk.correct(0);
        desk.pass(1);
        desk.correct(0);
        desk.pass(2);
        CHECK.due("hour 4: none yet", desk.copy(0, 0, 3), 0);
        desk.pass(1);
        CHECK.due("hour 5: the first two", desk.copy(0, 0, 3), 2);
        CHECK.due("event", desk.event(0, 0), 2);
        CHECK.due("event before", desk.event(1, 0), 2);
        CHECK.due("event before that", desk.event(2, 0), 5);
        CHECK.due("its client", desk.event(0, 2), 0);
        desk.pass(1);
        CHECK.due("hour 6: the third", desk.copy(0, 0, 3), 3);
        CHECK.due("corrections so far", desk.count(10), 3);
        EmbargoDesk quick = Desks.withCopyInUse(0, 0);
        quick.correct(0);
        CHECK.due("without lag, not at once", quick.copy(0, 0, 3), 0);
        quick.pass(1);
        CHECK.due("without lag, with the next hour", quick.copy(0, 0, 3), 1);
    }

    private static void correctionsWaitForClientsThatAreDown() {
        EmbargoDesk desk = Desks.withCopyInUse(1, 0);
        desk.setUp(0, false);
        desk.correct(0);
        desk.pass(1);
        desk.correct(0);
        desk.pass(9);
        CHECK.due("down", desk.copy(0, 0, 3), 0);
        desk.setUp(0, true);
        CHECK.due("up, until the hour", desk.copy(0, 0, 3), 0);
        desk.pass(1);
        CHECK.due("both in one hour", desk.copy(0, 0, 3), 2);
        CHECK.due("event", desk.event(0, 3), 12);
        CHECK.due("event before", desk.event(1, 3), 12);
        CHECK.due("event before that", desk.event(2, 0), 5);
    }

    private static void killNotices() {
        EmbargoDesk desk = Desks.withCopyInUse(5, 0);
        CHECK.due("no notice", desk.copy(0, 0, 7), EmbargoDesk.NONE);
        desk.kill(0);
        CHECK.due("half of the lag, rounded down", desk.copy(0, 0, 7), 3);
        desk.pass(1);
        CHECK.due("in use", desk.copy(0, 0, 0), 1);
        desk.pass(1);
        CHECK.due("withdrawn", desk.copy(0, 0, 0), 2);
        CHECK.due("event", desk.event(0, 0), 3);
        CHECK.due("its hour", desk.event(0, 3), 3);
        CHECK.due("came at", desk.copy(0, 0, 2), 1);
        CHECK.due("version", desk.copy(0, 0, 3), 0);
        CHECK.due("withdrawn ones", desk.count(6), 1);

        EmbargoDesk down = Desks.withCopyInUse(0, 0);
        down.setUp(0, false);
        down.kill(0);
        down.pass(9);
        CHECK.due("a client that is down keeps it", down.copy(0, 0, 0), 1);
        down.setUp(0, true);
        down.pass(1);
        CHECK.due("until it is up", down.copy(0, 0, 0), 2);
    }

    private static void correctionsBeforeTheKillNotice() {
        EmbargoDesk desk = Desks.withCopyInUse(6, 0);
        desk.correct(0);
        desk.pass(4);
        desk.correct(0);
        desk.kill(0);
        CHECK.due("notice", desk.copy(0, 0, 7), 8);
        desk.pass(2);
        CHECK.due("hour 7: a correction of a killed story", desk.copy(0, 0, 3), 1);
        desk.pass(1);
        CHECK.due("hour 8", desk.copy(0, 0, 0), 2);
        CHECK.due("withdrawn with version", desk.copy(0, 0, 3), 1);

        EmbargoDesk both = Desks.withCopyInUse(2, 0);
        both.correct(0);
        both.pass(1);
        both.kill(0);
        both.pass(1);
        CHECK.due("both are due: the notice alone", both.copy(0, 0, 0), 2);
        CHECK.due("no correction", both.copy(0, 0, 3), 0);
        CHECK.due("corrections so far", both.count(10), 0);
    }

    private static void useEnds() {
        EmbargoDesk desk = Desks.withCopyInUse(0, 0);
        desk.setUse(1);
        desk.setUp(0, false);
        desk.pass(23);
        CHECK.due("hour 24", desk.copy(0, 0, 0), 1);
        desk.pass(1);
        CHECK.due("hour 25, though down", desk.copy(0, 0, 0), 3);
        CHECK.due("event", desk.event(0, 0), 4);
        CHECK.due("its story", desk.event(0, 1), 0);
        CHECK.due("its client", desk.event(0, 2), 0);
        CHECK.due("its hour", desk.event(0, 3), 25);
        CHECK.due("ended ones", desk.count(7), 1);
        CHECK.due("came at", desk.copy(0, 0, 2), 1);

        EmbargoDesk last = Desks.withCopyInUse(0, 0);
        last.setUse(1);
        last.pass(23);
        last.correct(0);
        last.kill(0);
        last.pass(1);
        CHECK.due("the end comes before the notice", last.copy(0, 0, 0), 3);
        CHECK.due("and before the correction", last.copy(0, 0, 3), 0);
    }

    private static void feesAndShares() {
        EmbargoDesk desk = new EmbargoDesk();
        desk.addClient(1, 0, 0, 9, 101);
        desk.addClient(1, 0, 0, 9, 0);
        Desks.release(desk, "0 7,2,5 @0 a");
        desk.pass(1);
        CHECK.due("owes", desk.client(0, 6), 101);
        CHECK.due("owes nothing", desk.client(1, 6), 0);
        CHECK.due("the first one", desk.person(7, 0), 33 + 2);
        CHECK.due("the second one", desk.person(2, 0), 33);
        CHECK.due("the third one", desk.person(5, 0), 33);
        CHECK.due("all were billed", desk.client(0, 10) + desk.client(1, 10), 0);
        CHECK.due("no share was lost", desk.person(7, 1), 0);
        Desks.release(desk, "0 2,7 @0 a");
        desk.pass(1);
        CHECK.due("owes", desk.client(0, 6), 202);
        CHECK.due("now the second one", desk.person(7, 0), 35 + 50);
        CHECK.due("now the first one", desk.person(2, 0), 33 + 51);
    }

    private static void feesThatAreNotBilled() {
        EmbargoDesk desk = new EmbargoDesk();
        desk.addClient(1, 0, 0, 9, 1073741824);
        desk.addClient(2, 0, 0, 9, 1073741823);
        Desks.release(desk, "0 1 @0 a");
        Desks.release(desk, "0 2 @0 b");
        Desks.release(desk, "1 3 @0 c");
        Desks.release(desk, "1 4 @0 d");
        CHECK.due("all come", desk.pass(1), 4);
        CHECK.due("2147483648 is too much", desk.client(0, 6), 1073741824);
        CHECK.due("not billed", desk.client(0, 10), 1);
        CHECK.due("but it came", desk.client(0, 7), 2);
        CHECK.due("and is in use", desk.copy(1, 0, 0), 1);
        CHECK.due("no share of it", desk.person(2, 0), 0);
        CHECK.due("which is not lost either", desk.person(2, 1), 0);
        CHECK.due("2147483646", desk.client(1, 6), 2147483646);
        CHECK.due("all billed", desk.client(1, 10), 0);

        EmbargoDesk edge = new EmbargoDesk();
        edge.addClient(1, 0, 0, 9, 715827882);
        edge.addClient(2, 0, 0, 9, 1);
        for (int i = 0; i < 4; i++) {
            Desks.release(edge, "0 1 @0 a");
        }
        edge.pass(1);
        CHECK.due("three times", edge.client(0, 6), 2147483646);
        CHECK.due("the fourth is not billed", edge.client(0, 10), 1);
        CHECK.due("the other owes nothing", edge.client(1, 6), 0);

        EmbargoDesk exact = new EmbargoDesk();
        exact.addClient(255, 0, 0, 9, 306783378);
        for (int i = 0; i < 8; i++) {
            Desks.release(exact, "0 1 @0 a");
        }
        exact.pass(1);
        CHECK.due("2147483646 = 7 * 306783378", exact.client(0, 6), 2147483646);
        CHECK.due("not billed", exact.client(0, 10), 1);

        for (int more = 0; more <= 1; more++) {
            EmbargoDesk most = new EmbargoDesk();
            most.addClient(255, 0, 0, 9, 2000000000);
            Desks.release(most, "0 1 @0 a");
            most.pass(1);
            CHECK.due("pay", most.pay(0, 2000000000 - 147483647 - more), 147483647 + more);
            Desks.release(most, "0 2 @0 b");
            most.pass(1);
            CHECK.due("2147483647 may be owed, no more", most.client(0, 6), more == 0 ? 2147483647 : 147483648);
            CHECK.due("not billed", most.client(0, 10), more);
            CHECK.due("got", most.person(2, 0), more == 0 ? 2000000000 : 0);
        }
    }

    private static void sharesThatAreLost() {
        EmbargoDesk desk = new EmbargoDesk();
        desk.addClient(1, 0, 0, 9, 2000000000);
        desk.addClient(2, 0, 0, 9, 147483647);
        desk.addClient(4, 0, 0, 9, 1);
        desk.addClient(8, 0, 0, 9, 3);
        desk.addClient(16, 0, 0, 9, 0);
        Desks.release(desk, "0 1 @0 a");
        Desks.release(desk, "1 1 @0 b");
        desk.pass(1);
        CHECK.due("got the most", desk.person(1, 0), 2147483647);
        CHECK.due("lost none", desk.person(1, 1), 0);
        Desks.release(desk, "2 1 @0 c");
        desk.pass(1);
        CHECK.due("got the most", desk.person(1, 0), 2147483647);
        CHECK.due("lost one", desk.person(1, 1), 1);
        CHECK.due("the client owes it all the same", desk.client(2, 6), 1);
        CHECK.due("it was billed", desk.client(2, 10), 0);
        Desks.release(desk, "3 1,2 @0 d");
        desk.pass(1);
        CHECK.due("the share with what is left over is lost whole", desk.person(1, 1), 2);
        CHECK.due("the other share is not", desk.person(2, 0), 1);
        CHECK.due("nor counted", desk.person(2, 1), 0);
        Desks.release(desk, "3 2,1 @0 e");
        desk.pass(1);
        CHECK.due("first now", desk.person(2, 0), 3);
        CHECK.due("second now", desk.person(1, 1), 3);
        Desks.release(desk, "4 1 @0 f");
        CHECK.due("a share of 0", desk.pass(1), 1);
        CHECK.due("is not lost", desk.person(1, 1), 3);
    }
}
