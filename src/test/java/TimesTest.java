/** Each boundary in time: the hour before, the hour itself, and the hour after. */
public final class TimesTest {
    private static final int UNKNOWN = EmbargoDesk.UNKNOWN;
    private static final int NONE = EmbargoDesk.NONE;

    private static final int PLANNED = 0;
    private static final int IN_USE = 1;
    private static final int WITHDRAWN = 2;
    private static final int ENDED = 3;
    private static final int DROPPED = 4;

    private static final Check CHECK = new Check("TimesTest");

    public static void main(String[] args) throws IllegalAccessException {
        CHECK.allPromises(TimesTest.class);
    }

    private static void copyIs(String when, EmbargoDesk desk, int state) {
        CHECK.due(when + ", state of the copy", desk.copy(0, 0, 0), state);
    }

    // ---- 1. the hour and the day

    static void promise13_theHourBecomesGreaterBy1() {
        EmbargoDesk desk = new EmbargoDesk();
        CHECK.due("at first", desk.count(0), 0);
        desk.pass(1);
        CHECK.due("one hour", desk.count(0), 1);
        desk.pass(2);
        CHECK.due("two hours more", desk.count(0), 3);
    }

    static void promise13_ifTheHourCanBeDividedBy24() {
        int[] hours = {1, 22, 23, 24, 25, 46, 47, 48, 49, 71, 72, 240, 9959, 9960, 9961};
        for (int hour : hours) {
            EmbargoDesk desk = Scenes.oneClient(0, 0, 0);
            Desks.read(desk, "0 1 @0 a");
            Scenes.passTo(desk, hour - 1);
            desk.release(0);
            CHECK.due("a copy comes at " + hour, desk.pass(1), 1);
            CHECK.due("today at " + hour, desk.client(0, 7), 1);
            int lastOfDay = hour / 24 * 24 + 23;
            Scenes.passTo(desk, lastOfDay);
            CHECK.due("today at " + lastOfDay, desk.client(0, 7), 1);
            desk.pass(1);
            CHECK.due("today at " + (lastOfDay + 1), desk.client(0, 7), 0);
            CHECK.due("all at " + (lastOfDay + 1), desk.client(0, 8), 1);
        }
    }

    static void promise13_theDayBeginsBeforeTheCopiesCome() {
        EmbargoDesk desk = new EmbargoDesk();
        desk.addClient(255, 0, 0, 1, 0);
        desk.addClient(255, 0, 0, 1, 0);
        for (int story = 0; story < 3; story++) {
            Desks.release(desk, "0 1 @23 a");
        }
        CHECK.due("until hour 22", desk.pass(22), 0);
        CHECK.due("hour 23", desk.pass(1), 2);
        CHECK.due("hour 24", desk.pass(1), 2);
        CHECK.due("today of client 0", desk.client(0, 7), 1);
        CHECK.due("today of client 1", desk.client(1, 7), 1);
        CHECK.due("until hour 47", desk.pass(23), 0);
        CHECK.due("hour 48", desk.pass(1), 2);
    }

    static void promise13_theDayBeginsForClientsThatAreDownToo() {
        EmbargoDesk desk = Desks.withCopyInUse(0, 0);
        desk.setUp(0, false);
        desk.pass(22);
        CHECK.due("hour 23", desk.client(0, 7), 1);
        desk.pass(1);
        CHECK.due("hour 24", desk.client(0, 7), 0);
    }

    // ---- 2. publishing

    static void promise13_embargoNotGreaterThanTheHour() {
        int[] embargoes = {0, 1, 2, 3, 23, 24, 25, 99, 100, 101, 255, 256, 998, 999};
        for (int embargo : embargoes) {
            EmbargoDesk desk = Scenes.oneClient(1, 0, 0);
            Desks.release(desk, "0 1 @" + embargo + " a");
            int hour = Math.max(1, embargo);
            Scenes.passTo(desk, hour - 1);
            CHECK.due("state before embargo " + embargo, desk.story(0, 3), 1);
            CHECK.due("not published before embargo " + embargo, desk.story(0, 5), NONE);
            CHECK.due("no copy before embargo " + embargo, desk.count(3), 0);
            desk.pass(1);
            CHECK.due("state at embargo " + embargo, desk.story(0, 3), 2);
            CHECK.due("published at embargo " + embargo, desk.story(0, 5), hour);
            CHECK.due("copies at embargo " + embargo, desk.count(3), 1);
            CHECK.due("event at embargo " + embargo, desk.event(0, 0), 0);
            CHECK.due("hour of the event", desk.event(0, 3), hour);
        }
    }

    static void promise13_releasedBehindItsEmbargo() {
        for (int hour = 4; hour <= 6; hour++) {
            EmbargoDesk desk = new EmbargoDesk();
            Desks.read(desk, "0 1 @5 a");
            Scenes.passTo(desk, hour);
            CHECK.due("held", desk.story(0, 3), 0);
            desk.release(0);
            CHECK.due("released, not published at once", desk.story(0, 3), 1);
            desk.pass(1);
            CHECK.due("published with the next hour", desk.story(0, 5), hour + 1);
        }
    }

    static void promise10_embargoThatIsSetToTheNextHours() {
        for (int ahead = 0; ahead <= 2; ahead++) {
            EmbargoDesk desk = new EmbargoDesk();
            Desks.release(desk, "0 1 @999 a");
            desk.pass(10);
            CHECK.due("setEmbargo", desk.setEmbargo(0, 10 + ahead), 999);
            CHECK.due("not at once", desk.story(0, 3), 1);
            desk.pass(1);
            CHECK.due("published at", desk.story(0, 5), ahead < 2 ? 11 : NONE);
            desk.pass(1);
            CHECK.due("published at", desk.story(0, 5), ahead < 2 ? 11 : 12);
        }
    }

    static void promise09_hoursUntilTheEmbargo() {
        int[][] rows = {{0, 5, 5}, {1, 5, 4}, {4, 5, 1}, {5, 5, 0}, {6, 5, 0}, {0, 0, 0}, {100, 0, 0}, {0, 999, 999},
            {998, 999, 1}, {999, 999, 0}, {1000, 999, 0}};
        for (int[] row : rows) {
            EmbargoDesk desk = new EmbargoDesk();
            Desks.read(desk, "0 1 @" + row[1] + " a");
            Scenes.passTo(desk, row[0]);
            desk.release(0);
            CHECK.due("at " + row[0] + ", embargo " + row[1], desk.hold(0), row[2]);
        }
    }

    static void promise09_heldInTheLastHourBefore() {
        EmbargoDesk desk = new EmbargoDesk();
        Desks.release(desk, "0 1 @5 a");
        desk.pass(4);
        CHECK.due("hold", desk.hold(0), 1);
        desk.pass(1);
        CHECK.due("held", desk.story(0, 3), 0);
        CHECK.due("not published", desk.story(0, 5), NONE);
    }

    static void promise12_killedInTheLastHourBefore() {
        EmbargoDesk desk = Scenes.oneClient(0, 0, 0);
        Desks.release(desk, "0 1 @5 a");
        desk.pass(4);
        CHECK.due("kill", desk.kill(0), 0);
        desk.pass(1);
        CHECK.due("not published", desk.story(0, 5), NONE);
        CHECK.due("killed at", desk.story(0, 6), 4);
        CHECK.due("copies", desk.count(3), 0);
    }

    static void promise13_publishedByNumber() {
        EmbargoDesk desk = Scenes.oneClient(0, 0, 0);
        for (int story = 0; story < 20; story++) {
            Desks.read(desk, "0 1 @0 a");
        }
        desk.release(19);
        desk.release(10);
        desk.release(0);
        desk.pass(1);
        int[] order = {0, 100, 190};
        for (int place = 0; place < 3; place++) {
            CHECK.due("copyAt(" + place + ")", desk.copyAt(place), order[place]);
            CHECK.due("the event of its coming", desk.event(2 - place, 1), order[place] / 10);
            CHECK.due("the event of its publishing", desk.event(5 - place, 1), order[place] / 10);
        }
    }

    static void promise02_clientOfTheHourBeforePublishing() {
        EmbargoDesk desk = new EmbargoDesk();
        Desks.release(desk, "0 1 @5 a");
        desk.pass(4);
        desk.addClient(1, 0, 0, 9, 0);
        desk.pass(1);
        desk.addClient(1, 0, 0, 9, 0);
        desk.pass(1);
        CHECK.due("the first one has its copy", desk.copy(0, 0, 2), 5);
        CHECK.due("the second one has none", desk.copy(0, 1, 0), UNKNOWN);
    }

    static void promise03_topicsOfTheHourBeforePublishing() {
        EmbargoDesk desk = new EmbargoDesk();
        desk.addClient(2, 0, 0, 9, 0);
        desk.addClient(1, 0, 0, 9, 0);
        Desks.release(desk, "0 1 @5 a");
        desk.pass(4);
        desk.setTopics(0, 1);
        desk.setTopics(1, 2);
        desk.pass(1);
        CHECK.due("the first one has its copy", desk.copy(0, 0, 2), 5);
        CHECK.due("the second one has none", desk.copy(0, 1, 0), UNKNOWN);
        desk.setTopics(0, 2);
        desk.setTopics(1, 1);
        desk.pass(1);
        CHECK.due("it stays", desk.copy(0, 0, 0), IN_USE);
        CHECK.due("none comes later", desk.copy(0, 1, 0), UNKNOWN);
    }

    // ---- 3. planned copies

    static void promise13_dueAtPublishingAndDelay() {
        int[] delays = {0, 1, 2, 23, 24, 47, 48};
        for (int delay : delays) {
            EmbargoDesk desk = Scenes.oneClient(delay, 0, 0);
            Desks.release(desk, "0 1 @7 a");
            Scenes.passTo(desk, 7 + delay - 1);
            CHECK.due("before delay " + delay, desk.copy(0, 0, 0), delay == 0 ? UNKNOWN : PLANNED);
            CHECK.due("it comes", desk.pass(1), 1);
            copyIs("delay " + delay, desk, IN_USE);
            CHECK.due("due at", desk.copy(0, 0, 1), 7 + delay);
            CHECK.due("came at", desk.copy(0, 0, 2), 7 + delay);
        }
    }

    static void promise13_dueButTheClientIsDown() {
        EmbargoDesk desk = Scenes.oneClient(3, 0, 0);
        Desks.release(desk, "0 1 @0 a");
        desk.setUp(0, false);
        desk.pass(4);
        copyIs("due, but down", desk, PLANNED);
        desk.setUp(0, true);
        copyIs("up, before the next hour", desk, PLANNED);
        CHECK.due("it comes", desk.pass(1), 1);
        CHECK.due("came at", desk.copy(0, 0, 2), 5);
        CHECK.due("due at", desk.copy(0, 0, 1), 4);
    }

    static void promise13_plannedOfAKilledStoryIsDropped() {
        // The hour of the kill, before, in and behind the hour before the copy is due at 5.
        for (int hour = 3; hour <= 5; hour++) {
            EmbargoDesk desk = Scenes.oneClient(4, 24, 0);
            Desks.release(desk, "0 1 @0 a");
            Scenes.passTo(desk, hour);
            desk.kill(0);
            copyIs("killed at " + hour, desk, hour < 5 ? PLANNED : IN_USE);
            desk.pass(1);
            copyIs("the hour after " + hour, desk, hour < 5 ? DROPPED : IN_USE);
            CHECK.due("copies that came", desk.client(0, 8), hour < 5 ? 0 : 1);
        }
    }

    static void promise13_droppedWhetherItsClientIsUpOrDown() {
        for (int down = 0; down <= 1; down++) {
            EmbargoDesk desk = Scenes.oneClient(4, 24, 0);
            Desks.release(desk, "0 1 @0 a");
            desk.pass(1);
            if (down == 1) {
                desk.setUp(0, false);
            }
            desk.kill(0);
            desk.pass(1);
            copyIs("dropped", desk, DROPPED);
            CHECK.due("the latest event is the kill", desk.event(0, 0), 6);
            desk.setUp(0, true);
            desk.pass(10);
            copyIs("dropped for ever", desk, DROPPED);
        }
    }

    static void promise13_versionOfTheHourInWhichItComes() {
        EmbargoDesk desk = Scenes.oneClient(3, 24, 0);
        Desks.release(desk, "0 1 @0 a");
        desk.pass(1);
        desk.correct(0);
        desk.pass(2);
        desk.correct(0);
        desk.pass(1);
        CHECK.due("version", desk.copy(0, 0, 3), 2);
        desk.correct(0);
        CHECK.due("a correction in the hour in which it came", desk.copy(0, 0, 4), 1);
        CHECK.due("version", desk.copy(0, 0, 3), 2);
        CHECK.due("corrections that copies got", desk.count(10), 0);
    }

    // ---- 3. the use of a copy ends

    static void promise13_useEndsAfterDaysTimes24() {
        for (int days = 1; days <= 9; days++) {
            for (int down = 0; down <= 1; down++) {
                EmbargoDesk desk = Desks.withCopyInUse(0, 0);
                desk.setUse(days);
                if (down == 1) {
                    desk.setUp(0, false);
                }
                CHECK.due("end of use", desk.copy(0, 0, 8), 1 + 24 * days);
                Scenes.passTo(desk, 24 * days);
                copyIs("an hour before the end, " + days + " days", desk, IN_USE);
                desk.pass(1);
                copyIs("at the end, " + days + " days", desk, ENDED);
                CHECK.due("event", desk.event(0, 0), 4);
                CHECK.due("its hour", desk.event(0, 3), 1 + 24 * days);
            }
        }
    }

    static void promise05_useThatIsOverAtOnce() {
        // Since hour 1 in use, with one day: the end is at hour 25; the day is set at the hours about it.
        for (int hour = 23; hour <= 27; hour++) {
            EmbargoDesk desk = Desks.withCopyInUse(0, 0);
            Scenes.passTo(desk, hour);
            CHECK.due("setUse", desk.setUse(1), 3);
            CHECK.due("end", desk.copy(0, 0, 8), 25);
            copyIs("set at " + hour, desk, IN_USE);
            desk.pass(1);
            copyIs("the hour after " + hour, desk, hour + 1 < 25 ? IN_USE : ENDED);
        }
    }

    static void promise05_longerUseInTheLastHour() {
        EmbargoDesk desk = Desks.withCopyInUse(0, 0);
        desk.setUse(1);
        desk.pass(23);
        desk.setUse(2);
        desk.pass(1);
        copyIs("hour 25", desk, IN_USE);
        desk.pass(23);
        copyIs("hour 48", desk, IN_USE);
        desk.pass(1);
        copyIs("hour 49", desk, ENDED);
        desk.setUse(9);
        CHECK.due("an ended one has no end", desk.copy(0, 0, 8), NONE);
        desk.pass(1);
        copyIs("and stays ended", desk, ENDED);
    }

    static void promise13_useEndsBeforeTheKillNotice() {
        // The kill is at hour 23, its notice at 24, 25 and 26; the use ends at hour 25.
        for (int wait = 1; wait <= 3; wait++) {
            EmbargoDesk desk = Desks.withCopyInUse(2 * wait, 0);
            desk.setUse(1);
            Scenes.passTo(desk, 23);
            desk.kill(0);
            CHECK.due("notice", desk.copy(0, 0, 7), 23 + wait);
            desk.pass(2);
            copyIs("notice after " + wait, desk, wait == 1 ? WITHDRAWN : ENDED);
        }
    }

    static void promise13_useEndsBeforeTheCorrection() {
        for (int lag = 1; lag <= 3; lag++) {
            EmbargoDesk desk = Desks.withCopyInUse(lag, 0);
            desk.setUse(1);
            Scenes.passTo(desk, 23);
            desk.correct(0);
            desk.pass(2);
            copyIs("lag " + lag, desk, ENDED);
            CHECK.due("version, lag " + lag, desk.copy(0, 0, 3), lag == 1 ? 1 : 0);
        }
    }

    // ---- 3. corrections and kill notices

    static void promise13_correctionIsDueAtItsHourAndTheLag() {
        int[] lags = {0, 1, 2, 23, 24};
        for (int lag : lags) {
            EmbargoDesk desk = Desks.withCopyInUse(lag, 0);
            desk.correct(0);
            int hour = Math.max(2, 1 + lag);
            CHECK.due("next correction", desk.copy(0, 0, 6), 1 + lag);
            Scenes.passTo(desk, hour - 1);
            CHECK.due("version before, lag " + lag, desk.copy(0, 0, 3), 0);
            CHECK.due("due before", desk.copy(0, 0, 5), lag == 0 ? 1 : 0);
            desk.pass(1);
            CHECK.due("version then", desk.copy(0, 0, 3), 1);
            CHECK.due("hour of the event", desk.event(0, 3), hour);
        }
    }

    static void promise13_correctionsOneAfterTheOther() {
        EmbargoDesk desk = Desks.withCopyInUse(2, 0);
        desk.correct(0);
        desk.pass(1);
        desk.correct(0);
        desk.correct(0);
        CHECK.due("hour 2", desk.copy(0, 0, 3), 0);
        desk.pass(1);
        CHECK.due("hour 3", desk.copy(0, 0, 3), 1);
        CHECK.due("next one", desk.copy(0, 0, 6), 4);
        desk.pass(1);
        CHECK.due("hour 4", desk.copy(0, 0, 3), 3);
        CHECK.due("next one", desk.copy(0, 0, 6), NONE);
        CHECK.due("corrections so far", desk.count(10), 3);
    }

    static void promise13_killNoticeIsDueAfterHalfOfTheLagRoundedDown() {
        int[][] rows = {{0, 0}, {1, 0}, {2, 1}, {3, 1}, {4, 2}, {5, 2}, {22, 11}, {23, 11}, {24, 12}};
        for (int[] row : rows) {
            EmbargoDesk desk = Desks.withCopyInUse(row[0], 0);
            desk.kill(0);
            CHECK.due("notice of lag " + row[0], desk.copy(0, 0, 7), 1 + row[1]);
            int hour = 1 + Math.max(1, row[1]);
            Scenes.passTo(desk, hour - 1);
            copyIs("before, lag " + row[0], desk, IN_USE);
            desk.pass(1);
            copyIs("then, lag " + row[0], desk, WITHDRAWN);
            CHECK.due("kind of the event", desk.event(0, 0), 3);
            CHECK.due("hour of the event", desk.event(0, 3), hour);
        }
    }

    static void promise13_noCorrectionInTheHourOfTheKillNotice() {
        // With the lag 4 the notice of a kill at hour 4 is due at 6, and these corrections at 5, 6 and 7.
        for (int hour = 1; hour <= 3; hour++) {
            EmbargoDesk desk = Desks.withCopyInUse(4, 0);
            Scenes.passTo(desk, hour);
            desk.correct(0);
            Scenes.passTo(desk, 4);
            desk.kill(0);
            desk.pass(1);
            copyIs("hour 5", desk, IN_USE);
            CHECK.due("version at 5, corrected at " + hour, desk.copy(0, 0, 3), hour == 1 ? 1 : 0);
            desk.pass(1);
            copyIs("hour 6", desk, WITHDRAWN);
            CHECK.due("version at 6, corrected at " + hour, desk.copy(0, 0, 3), hour == 1 ? 1 : 0);
            desk.pass(1);
            CHECK.due("version at 7, corrected at " + hour, desk.copy(0, 0, 3), hour == 1 ? 1 : 0);
            CHECK.due("corrections so far", desk.count(10), hour == 1 ? 1 : 0);
        }
    }

    static void promise13_nothingReachesAClientThatIsDown() {
        EmbargoDesk desk = Desks.withCopyInUse(0, 0);
        desk.correct(0);
        desk.setUp(0, false);
        desk.pass(10);
        CHECK.due("no correction", desk.copy(0, 0, 3), 0);
        desk.kill(0);
        desk.pass(10);
        copyIs("no notice", desk, IN_USE);
        desk.setUp(0, true);
        desk.pass(1);
        copyIs("then the notice alone", desk, WITHDRAWN);
        CHECK.due("and no correction", desk.copy(0, 0, 3), 0);
    }

    static void promise04_nothingHappensBeforeTheNextHour() {
        EmbargoDesk desk = Desks.withCopyInUse(0, 0);
        Desks.release(desk, "0 1 @0 b");
        desk.setUp(0, false);
        desk.correct(0);
        desk.pass(1);
        desk.setUp(0, true);
        CHECK.due("the correction waits", desk.copy(0, 0, 3), 0);
        CHECK.due("the planned copy waits", desk.copy(1, 0, 0), PLANNED);
        CHECK.due("corrections so far", desk.count(10), 0);
        desk.pass(1);
        CHECK.due("the correction came", desk.copy(0, 0, 3), 1);
        CHECK.due("the planned copy came", desk.copy(1, 0, 2), 3);
        desk.setUp(0, false);
        desk.kill(0);
        desk.pass(1);
        desk.setUp(0, true);
        copyIs("the notice waits", desk, IN_USE);
        desk.pass(1);
        copyIs("the notice came", desk, WITHDRAWN);
    }

    // ---- what is told of copies at these hours

    static void promise25_dueCorrectionsAtTheHour() {
        EmbargoDesk desk = Desks.withCopyInUse(2, 0);
        desk.setUp(0, false);
        desk.correct(0);
        int[] due = {0, 0, 1, 1};
        for (int passed = 0; passed < due.length; passed++) {
            CHECK.due("due at " + (1 + passed), desk.copy(0, 0, 5), due[passed]);
            CHECK.due("not got at " + (1 + passed), desk.copy(0, 0, 4), 1);
            CHECK.due("next at " + (1 + passed), desk.copy(0, 0, 6), 3);
            CHECK.due("copies with them at " + (1 + passed), desk.count(9), due[passed]);
            desk.pass(1);
        }
    }

    static void promise25_correctionsOfAKilledStory() {
        EmbargoDesk desk = Desks.withCopyInUse(8, 0);
        desk.correct(0);
        desk.pass(1);
        desk.correct(0);
        desk.kill(0);
        int[] told = {1, 1, 1, 0, 2, 0, 9, 6, 73};
        for (int what = 0; what < told.length; what++) {
            CHECK.due("copy(0, 0, " + what + ")", desk.copy(0, 0, what), told[what]);
        }
        desk.setUp(0, false);
        desk.pass(7);
        CHECK.due("due at hour 9, behind the notice", desk.copy(0, 0, 5), 1);
        CHECK.due("next at hour 9", desk.copy(0, 0, 6), 9);
        CHECK.due("notice at hour 9", desk.copy(0, 0, 7), 6);
        CHECK.due("copies with corrections that are due", desk.count(9), 1);
    }

    static void promise30_dueCorrectionsWhetherDownOrUp() {
        for (int down = 0; down <= 1; down++) {
            EmbargoDesk desk = Desks.withCopyInUse(0, 0);
            if (down == 1) {
                desk.setUp(0, false);
            }
            CHECK.due("none", desk.count(9), 0);
            desk.correct(0);
            CHECK.due("one, at once without lag", desk.count(9), 1);
            desk.pass(1);
            CHECK.due("then", desk.count(9), down);
        }
    }

    // ---- what will be

    static void promise27_carriedIn0IfItDoesNow() {
        EmbargoDesk desk = Desks.withCopyInUse(1, 0);
        CHECK.due("without corrections", desk.carriedIn(0, 0), 0);
        desk.correct(0);
        CHECK.due("an hour", desk.carriedIn(0, 0), 1);
        desk.pass(1);
        CHECK.due("with its correction", desk.carriedIn(0, 0), 0);
        desk.setUp(0, false);
        CHECK.due("down, but it has it", desk.carriedIn(0, 0), 0);
        desk.setUp(0, true);
        desk.kill(0);
        CHECK.due("killed, but in use now", desk.carriedIn(0, 0), 0);
        desk.pass(1);
        CHECK.due("withdrawn", desk.carriedIn(0, 0), NONE);
    }

    static void promise27_correctionWithoutLagNeedsAnHour() {
        EmbargoDesk desk = Desks.withCopyInUse(0, 0);
        desk.correct(0);
        CHECK.due("due now, but not got", desk.carriedIn(0, 0), 1);
    }

    static void promise27_within100() {
        // A copy a day: the copy of story n comes at hour 24 * n, and the story is corrected then already.
        for (int hour = 18; hour <= 22; hour++) {
            EmbargoDesk desk = new EmbargoDesk();
            desk.addClient(255, 0, 0, 1, 0);
            for (int story = 0; story < 6; story++) {
                Desks.release(desk, "0 1 @0 a");
            }
            desk.pass(hour);
            desk.correct(5);
            CHECK.due("at hour " + hour, desk.carriedIn(5, 0), hour < 20 ? NONE : 120 - hour);
            CHECK.due("the one before", desk.carriedIn(4, 0), 96 - hour);
        }
    }

    static void promise27_notInUseByThenBecauseItsUseEnds() {
        // With 2 days the use ends at hour 49, and the correction is due 24 hours after it was made.
        for (int hour = 23; hour <= 26; hour++) {
            EmbargoDesk desk = Desks.withCopyInUse(24, 0);
            desk.setUse(2);
            Scenes.passTo(desk, hour);
            desk.correct(0);
            CHECK.due("corrected at " + hour, desk.carriedIn(0, 0), hour + 24 < 49 ? 24 : NONE);
        }
    }

    static void promise27_notInUseByThenBecauseOfTheKillNotice() {
        // With the lag 4, a correction at hour 1 is due at 5, and a kill's notice two hours after the kill.
        for (int hour = 2; hour <= 4; hour++) {
            EmbargoDesk desk = Desks.withCopyInUse(4, 0);
            desk.correct(0);
            Scenes.passTo(desk, hour);
            desk.kill(0);
            CHECK.due("killed at " + hour, desk.carriedIn(0, 0), hour + 2 > 5 ? 5 - hour : NONE);
        }
    }

    static void promise27_plannedCopiesOfKilledStories() {
        EmbargoDesk desk = Scenes.oneClient(5, 0, 0);
        Desks.release(desk, "0 1 @0 a");
        desk.pass(1);
        CHECK.due("planned", desk.carriedIn(0, 0), 5);
        desk.kill(0);
        CHECK.due("killed", desk.carriedIn(0, 0), NONE);
        desk.pass(1);
        CHECK.due("dropped", desk.carriedIn(0, 0), NONE);
    }

    static void promise27_otherStoriesComeFirst() {
        EmbargoDesk desk = new EmbargoDesk();
        desk.addClient(255, 0, 0, 1, 0);
        desk.addClient(255, 2, 0, 1, 0);
        Desks.release(desk, "0 1 @3 a");
        Desks.release(desk, "0 1 @2 b");
        desk.pass(3);
        CHECK.due("made later, comes on the next day", desk.carriedIn(0, 0), 21);
        CHECK.due("made first", desk.carriedIn(1, 0), 0);
        CHECK.due("the other client", desk.carriedIn(1, 1), 1);
        CHECK.due("the other client's next", desk.carriedIn(0, 1), 21);
    }

    static void promise28_hoursUntilACopyComes() {
        int[] delays = {0, 1, 47, 48};
        for (int delay : delays) {
            EmbargoDesk desk = Scenes.oneClient(delay, 0, 0);
            Desks.release(desk, "0 1 @52 a");
            if (delay < 48) {
                CHECK.due("an hour before, delay " + delay, desk.wouldCome(0, 51 + delay), 0);
                CHECK.due("then, delay " + delay, desk.wouldCome(0, 52 + delay), 1);
            } else {
                CHECK.due("an hour before, delay 48", desk.wouldCome(0, 99), 0);
                CHECK.due("then, delay 48", desk.wouldCome(0, 100), 1);
            }
            CHECK.due("nothing has happened", desk.count(0) + desk.count(3) + desk.story(0, 3), 1);
        }
    }

    static void promise28_ofThisClientAlone() {
        EmbargoDesk desk = new EmbargoDesk();
        desk.addClient(1, 0, 0, 9, 0);
        desk.addClient(3, 1, 0, 9, 0);
        Desks.release(desk, "0 1 @0 a");
        Desks.release(desk, "1 1 @0 a");
        CHECK.due("client 0, an hour", desk.wouldCome(0, 1), 1);
        CHECK.due("client 1, an hour", desk.wouldCome(1, 1), 0);
        CHECK.due("client 1, two hours", desk.wouldCome(1, 2), 2);
        desk.pass(1);
        CHECK.due("what came already does not count", desk.wouldCome(0, 100), 0);
    }

    static void promise13_tellsTheCopiesThatComeInTheseHours() {
        EmbargoDesk desk = new EmbargoDesk();
        desk.addClient(255, 0, 0, 9, 0);
        desk.addClient(255, 10, 0, 9, 0);
        Desks.release(desk, "0 1 @5 a");
        CHECK.due("until hour 4", desk.pass(4), 0);
        CHECK.due("hour 5", desk.pass(1), 1);
        CHECK.due("until hour 14", desk.pass(9), 0);
        CHECK.due("hour 15", desk.pass(1), 1);
        CHECK.due("until hour 115", desk.pass(100), 0);
    }

    static void promise13_copiesThatCameAndEndedInTheseHours() {
        EmbargoDesk desk = Scenes.oneClient(0, 0, 0);
        desk.setUse(1);
        Desks.release(desk, "0 1 @0 a");
        CHECK.due("it came", desk.pass(100), 1);
        copyIs("and ended", desk, ENDED);
        CHECK.due("came at", desk.copy(0, 0, 2), 1);
    }

    // ---- the hours that are told of a story

    static void promise19_hoursOfPublishingAndKill() {
        EmbargoDesk desk = new EmbargoDesk();
        Desks.read(desk, "0 1 @0 a");
        desk.kill(0);
        CHECK.due("killed at hour 0", desk.story(0, 6), 0);
        CHECK.due("not published", desk.story(0, 5), NONE);
        Desks.release(desk, "0 1 @0 b");
        desk.pass(1);
        CHECK.due("published at hour 1", desk.story(1, 5), 1);
        CHECK.due("not killed", desk.story(1, 6), NONE);
        desk.correct(1);
        desk.kill(1);
        CHECK.due("killed in the same hour", desk.story(1, 6), 1);
        CHECK.due("version as it was", desk.story(1, 4), 1);
        CHECK.due("published at as it was", desk.story(1, 5), 1);
    }
}
