/** Each limit: one below it, at it, and one above it. */
public final class LimitsTest {
    private static final int UNKNOWN = EmbargoDesk.UNKNOWN;
    private static final int BAD_VALUE = EmbargoDesk.BAD_VALUE;
    private static final int FULL = EmbargoDesk.FULL;
    private static final int NOT_POSSIBLE = EmbargoDesk.NOT_POSSIBLE;
    private static final int NONE = EmbargoDesk.NONE;

    private static final Check CHECK = new Check("LimitsTest");

    public static void main(String[] args) throws IllegalAccessException {
        CHECK.allPromises(LimitsTest.class);
    }

    // ---- at most 8 clients

    static void promise02_atMost8Clients() {
        EmbargoDesk desk = new EmbargoDesk();
        for (int number = 0; number < 8; number++) {
            CHECK.due("client " + number, desk.addClient(1, 0, 0, 1, number), number);
            CHECK.due("clients", desk.count(1), number + 1);
            CHECK.due("its fee", desk.client(number, 4), number);
        }
        CHECK.due("a ninth", desk.addClient(1, 0, 0, 1, 0), FULL);
        CHECK.due("a ninth again", desk.addClient(1, 0, 0, 1, 0), FULL);
        CHECK.due("clients", desk.count(1), 8);
        CHECK.due("client 8", desk.client(8, 0), UNKNOWN);
        for (int number = 0; number < 8; number++) {
            CHECK.due("fee of client " + number, desk.client(number, 4), number);
        }
    }

    static void promise02_roomForTheEighthAfterUndo() {
        EmbargoDesk desk = new EmbargoDesk();
        for (int number = 0; number < 8; number++) {
            desk.addClient(1, 0, 0, 1, 0);
        }
        CHECK.due("undo", desk.undo(), 3);
        CHECK.due("an eighth again", desk.addClient(2, 0, 0, 1, 0), 7);
        CHECK.due("a ninth", desk.addClient(2, 0, 0, 1, 0), FULL);
    }

    static void promise08_copiesForAll8Clients() {
        EmbargoDesk desk = new EmbargoDesk();
        for (int clients = 0; clients <= 8; clients++) {
            Desks.read(desk, "7 1 @0 a");
            CHECK.due("release with " + clients + " clients", desk.release(clients), clients);
            desk.addClient(128, 0, 0, 9, 0);
        }
        desk.pass(1);
        CHECK.due("copies", desk.count(3), 72);
    }

    // ---- at most 20 stories ever

    static void promise07_atMost20Stories() {
        EmbargoDesk desk = new EmbargoDesk();
        Desks.type(desk, "0 1 @0 a");
        for (int number = 0; number < 20; number++) {
            CHECK.due("story " + number, desk.readStory(), number);
            CHECK.due("stories", desk.count(2), number + 1);
        }
        CHECK.due("a twenty-first", desk.readStory(), FULL);
        CHECK.due("a twenty-first again", desk.readStory(), FULL);
        CHECK.due("stories", desk.count(2), 20);
        CHECK.due("story 19", desk.story(19, 2), 0);
        CHECK.due("story 20", desk.story(20, 2), UNKNOWN);
    }

    static void promise07_20StoriesEverThoughAllAreOver() {
        EmbargoDesk desk = new EmbargoDesk();
        Desks.type(desk, "0 1 @0 a");
        for (int number = 0; number < 20; number++) {
            desk.readStory();
            desk.kill(number);
        }
        desk.pass(100);
        CHECK.due("a twenty-first", desk.readStory(), FULL);
        CHECK.due("stories", desk.count(2), 20);
    }

    static void promise07_roomForTheTwentiethAfterUndo() {
        EmbargoDesk desk = new EmbargoDesk();
        Desks.type(desk, "0 1 @0 a");
        for (int number = 0; number < 20; number++) {
            desk.readStory();
        }
        desk.undo();
        CHECK.due("stories", desk.count(2), 19);
        CHECK.due("a twentieth again", desk.readStory(), 19);
        CHECK.due("a twenty-first", desk.readStory(), FULL);
    }

    static void promise26_atMost160Copies() {
        EmbargoDesk desk = Scenes.full();
        CHECK.due("copies", desk.count(3), 160);
        CHECK.due("the last but one", desk.copyAt(158), 196);
        CHECK.due("the last", desk.copyAt(159), 197);
        CHECK.due("no more", desk.copyAt(160), NONE);
        CHECK.due("the last one waits for the third day", desk.copy(19, 7, 0), 0);
        desk.pass(46);
        CHECK.due("at hour 47, too", desk.copy(19, 7, 0), 0);
        desk.pass(1);
        CHECK.due("in use then", desk.copy(19, 7, 0), 1);
        CHECK.due("came at", desk.copy(19, 7, 2), 48);
    }

    // ---- at most 6 corrections

    static void promise11_atMost6Corrections() {
        EmbargoDesk desk = Desks.withCopyInUse(24, 0);
        for (int version = 1; version <= 6; version++) {
            CHECK.due("correction " + version, desk.correct(0), version);
            CHECK.due("version", desk.story(0, 4), version);
            CHECK.due("hour of it", desk.correction(0, version - 1), version);
            CHECK.due("the next one is not yet", desk.correction(0, version), NONE);
            desk.pass(1);
        }
        CHECK.due("a seventh", desk.correct(0), FULL);
        CHECK.due("a seventh again", desk.correct(0), FULL);
        CHECK.due("version", desk.story(0, 4), 6);
        CHECK.due("hour of the sixth", desk.correction(0, 5), 6);
        CHECK.due("no seventh", desk.correction(0, 6), NONE);
        CHECK.due("no event of it", desk.event(0, 3), 6);
    }

    static void promise11_6CorrectionsOfEachStory() {
        EmbargoDesk desk = new EmbargoDesk();
        Desks.release(desk, "0 1 @0 a");
        Desks.release(desk, "0 1 @0 b");
        desk.pass(1);
        for (int i = 0; i < 6; i++) {
            desk.correct(0);
        }
        CHECK.due("the other story", desk.correct(1), 1);
        CHECK.due("the first one", desk.correct(0), FULL);
    }

    static void promise11_roomForTheSixthAfterUndo() {
        EmbargoDesk desk = Desks.withCopyInUse(24, 0);
        for (int i = 0; i < 6; i++) {
            desk.correct(0);
        }
        desk.undo();
        CHECK.due("version", desk.story(0, 4), 5);
        desk.pass(5);
        CHECK.due("a sixth again", desk.correct(0), 6);
        CHECK.due("its hour", desk.correction(0, 5), 6);
        CHECK.due("a seventh", desk.correct(0), FULL);
    }

    static void promise25_all6CorrectionsComeToACopy() {
        EmbargoDesk desk = Desks.withCopyInUse(3, 0);
        for (int i = 0; i < 6; i++) {
            desk.correct(0);
        }
        CHECK.due("not got yet", desk.copy(0, 0, 4), 6);
        desk.pass(2);
        CHECK.due("none of them", desk.copy(0, 0, 3), 0);
        desk.pass(1);
        CHECK.due("all of them in one hour", desk.copy(0, 0, 3), 6);
        CHECK.due("not got yet", desk.copy(0, 0, 4), 0);
        CHECK.due("corrections so far", desk.count(10), 6);
    }

    // ---- at most 40 characters

    static void promise14_atMost40Characters() {
        EmbargoDesk desk = new EmbargoDesk();
        for (int length = 1; length <= 40; length++) {
            CHECK.due("character " + length, desk.type('x'), length);
            CHECK.due("length", desk.count(14), length);
        }
        CHECK.due("one more", desk.type('x'), FULL);
        CHECK.due("one more again", desk.type('x'), FULL);
        CHECK.due("length", desk.count(14), 40);
        CHECK.due("clearText", desk.clearText(), 40);
        CHECK.due("room again", desk.type('x'), 1);
    }

    static void promise14_theCharacterThatFindsNoRoomIsNotTyped() {
        EmbargoDesk desk = Scenes.fullText();
        CHECK.due("one more", desk.type('0'), FULL);
        CHECK.due("the text's fault is where it was", desk.readStory(), -119);
        CHECK.due("its first character", desk.type('8'), FULL);
        CHECK.due("has not changed", desk.readStory(), -119);
    }

    static void promise15_lengths0And1And39And40() {
        int[] lengths = {0, 1, 39, 40};
        for (int length : lengths) {
            EmbargoDesk desk = new EmbargoDesk();
            for (int i = 0; i < length; i++) {
                desk.type('x');
            }
            CHECK.due("clearText", desk.clearText(), length);
            CHECK.due("clearText again", desk.clearText(), 0);
            CHECK.due("length", desk.count(14), 0);
        }
    }

    // ---- the latest 12 events are known

    static void promise29_latest12EventsAreKnown() {
        EmbargoDesk desk = new EmbargoDesk();
        Desks.type(desk, "0 1 @0 a");
        for (int events = 0; events <= 20; events++) {
            int known = Math.min(events, 12);
            for (int back = 0; back < known; back++) {
                CHECK.due("story of event " + back + " of " + events, desk.event(back, 1), events - 1 - back);
            }
            for (int what = 0; what <= 3; what++) {
                CHECK.due("behind the last of " + events, desk.event(known, what), NONE);
            }
            desk.readStory();
            desk.kill(events);
        }
    }

    static void promise29_13EventsOfOneHour() {
        EmbargoDesk desk = new EmbargoDesk();
        for (int client = 0; client < 8; client++) {
            desk.addClient(255, 0, 0, 9, 0);
        }
        for (int story = 0; story < 5; story++) {
            Desks.release(desk, "0 1 @0 a");
        }
        // 5 stories are published, then 40 copies come: the latest 12 are of stories 3 and 4.
        desk.pass(1);
        for (int back = 0; back < 12; back++) {
            CHECK.due("kind of " + back, desk.event(back, 0), 1);
            CHECK.due("story of " + back, desk.event(back, 1), back < 8 ? 4 : 3);
            CHECK.due("client of " + back, desk.event(back, 2), 7 - back % 8);
        }
        CHECK.due("the thirteenth", desk.event(12, 0), NONE);
    }

    static void promise16_undoBringsBackTheEventThatTheLogDropped() {
        EmbargoDesk desk = new EmbargoDesk();
        Desks.type(desk, "0 1 @0 a");
        for (int story = 0; story < 12; story++) {
            desk.readStory();
            desk.kill(story);
        }
        desk.readStory();
        desk.kill(12);
        CHECK.due("the oldest one", desk.event(11, 1), 1);
        desk.undo();
        CHECK.due("the oldest one before", desk.event(11, 1), 0);
        CHECK.due("the latest one before", desk.event(0, 1), 11);
    }

    // ---- a history of at most 4 states

    static void promise16_atMost4States() {
        for (int acts = 0; acts <= 7; acts++) {
            EmbargoDesk desk = new EmbargoDesk();
            for (int i = 0; i < acts; i++) {
                desk.pass(1);
            }
            int states = Math.min(acts, 4);
            CHECK.due("states after " + acts, desk.count(13), states);
            for (int left = states - 1; left >= 0; left--) {
                CHECK.due("undo after " + acts, desk.undo(), left);
                CHECK.due("hour", desk.count(0), acts - states + left);
            }
            CHECK.due("one more undo", desk.undo(), NONE);
            CHECK.due("hour", desk.count(0), acts - states);
            CHECK.due("states", desk.count(13), 0);
        }
    }

    static void promise16_theOldestStateIsDropped() {
        EmbargoDesk desk = new EmbargoDesk();
        desk.addClient(1, 0, 0, 1, 0);
        for (int days = 4; days <= 7; days++) {
            desk.setUse(days);
        }
        CHECK.due("states", desk.count(13), 4);
        for (int left = 3; left >= 0; left--) {
            CHECK.due("undo", desk.undo(), left);
        }
        CHECK.due("the client is no longer undone", desk.undo(), NONE);
        CHECK.due("clients", desk.count(1), 1);
        CHECK.due("days", desk.count(12), 3);
    }

    static void promise16_fourMoreAfterUndos() {
        EmbargoDesk desk = new EmbargoDesk();
        for (int i = 0; i < 6; i++) {
            desk.pass(1);
        }
        desk.undo();
        desk.undo();
        for (int i = 0; i < 3; i++) {
            desk.pass(10);
            CHECK.due("states", desk.count(13), Math.min(4, 3 + i));
        }
        int[] hours = {24, 14, 4, 3};
        for (int hour : hours) {
            desk.undo();
            CHECK.due("hour", desk.count(0), hour);
        }
        CHECK.due("one more", desk.undo(), NONE);
    }

    static void promise18_restoreDropsTheOldestStateToo() {
        EmbargoDesk desk = new EmbargoDesk();
        desk.keep();
        for (int i = 0; i < 4; i++) {
            desk.pass(1);
        }
        CHECK.due("restore", desk.restore(), 0);
        CHECK.due("states", desk.count(13), 4);
        int[] hours = {4, 3, 2, 1};
        for (int hour : hours) {
            desk.undo();
            CHECK.due("hour", desk.count(0), hour);
        }
        CHECK.due("one more", desk.undo(), NONE);
    }

    // ---- the hour is never more than 9999

    static void promise13_notPossibleIfTheHourWouldBecomeMoreThan9999() {
        int[][] rows = {{9998, 1, 0}, {9999, 1, NOT_POSSIBLE}, {9997, 2, 0}, {9998, 2, NOT_POSSIBLE}, {9899, 100, 0},
            {9900, 100, NOT_POSSIBLE}, {9900, 99, 0}, {9901, 99, NOT_POSSIBLE}, {9999, 100, NOT_POSSIBLE},
            {9999, 101, BAD_VALUE}, {9999, 0, BAD_VALUE}, {9999, Integer.MAX_VALUE, BAD_VALUE},
            {9999, Integer.MIN_VALUE, BAD_VALUE}};
        for (int[] row : rows) {
            EmbargoDesk desk = new EmbargoDesk();
            Scenes.passTo(desk, row[0]);
            CHECK.due("at " + row[0] + " pass " + row[1], desk.pass(row[1]), row[2]);
            CHECK.due("hour", desk.count(0), row[2] == 0 ? row[0] + row[1] : row[0]);
        }
    }

    static void promise13_whatHappensAt9999() {
        EmbargoDesk desk = Scenes.late();
        desk.release(1);
        Scenes.passTo(desk, 9998);
        CHECK.due("published", desk.story(1, 5), 9950);
        desk.correct(1);
        CHECK.due("the last hour", desk.pass(1), 0);
        CHECK.due("and no more", desk.pass(1), NOT_POSSIBLE);
        CHECK.due("correction that is not due yet", desk.copy(1, 0, 6), 10001);
        CHECK.due("restore in the last hour", desk.restore(), NONE);
        CHECK.due("kill", desk.kill(1), 1);
        CHECK.due("killed at", desk.story(1, 6), 9999);
        CHECK.due("notice", desk.copy(1, 0, 7), 10000);
    }

    static void promises27and28_lookBehind9999() {
        EmbargoDesk desk = Scenes.oneClient(48, 24, 0);
        Desks.read(desk, "0 1 @999 a");
        Scenes.passTo(desk, 9999);
        desk.release(0);
        CHECK.due("it would come", desk.wouldCome(0, 49), 1);
        CHECK.due("not an hour before", desk.wouldCome(0, 48), 0);
        CHECK.due("hour", desk.count(0), 9999);
        EmbargoDesk other = Scenes.late();
        Scenes.passTo(other, 9998);
        other.correct(0);
        CHECK.due("it would carry it", other.carriedIn(0, 0), 3);
    }

    // ---- the daily limit

    static void promise13_dailyLimitOf1To9Copies() {
        for (int limit = 1; limit <= 9; limit++) {
            for (int stories = limit - 1; stories <= limit + 1; stories++) {
                EmbargoDesk desk = new EmbargoDesk();
                desk.addClient(255, 0, 0, limit, 0);
                for (int story = 0; story < stories; story++) {
                    Desks.release(desk, "0 1 @0 a");
                }
                CHECK.due(stories + " copies, limit " + limit, desk.wouldCome(0, 23), Math.min(stories, limit));
                CHECK.due(stories + " copies, limit " + limit, desk.pass(23), Math.min(stories, limit));
                CHECK.due("today", desk.client(0, 7), Math.min(stories, limit));
                CHECK.due("on the next day", desk.pass(1), Math.max(0, stories - limit));
                CHECK.due("today then", desk.client(0, 7), Math.max(0, stories - limit));
                CHECK.due("all", desk.client(0, 8), stories);
            }
        }
    }

    static void promise13_eachClientHasItsOwnLimit() {
        EmbargoDesk desk = new EmbargoDesk();
        desk.addClient(255, 0, 0, 1, 0);
        desk.addClient(255, 0, 0, 2, 0);
        for (int story = 0; story < 3; story++) {
            Desks.release(desk, "0 1 @0 a");
        }
        CHECK.due("one and two", desk.pass(1), 3);
        CHECK.due("the first copy of client 0", desk.copy(0, 0, 0), 1);
        CHECK.due("the second copy of client 0", desk.copy(1, 0, 0), 0);
        CHECK.due("the second copy of client 1", desk.copy(1, 1, 0), 1);
        CHECK.due("the third copy of client 1", desk.copy(2, 1, 0), 0);
    }

    static void promise13_copiesThatEndedCountForTheDay() {
        EmbargoDesk desk = new EmbargoDesk();
        desk.addClient(255, 0, 0, 1, 0);
        Desks.release(desk, "0 1 @0 a");
        Desks.release(desk, "0 1 @0 b");
        desk.pass(1);
        desk.kill(0);
        desk.pass(1);
        CHECK.due("withdrawn", desk.copy(0, 0, 0), 2);
        CHECK.due("came today all the same", desk.client(0, 7), 1);
        desk.pass(21);
        CHECK.due("the other one waits", desk.copy(1, 0, 0), 0);
        CHECK.due("for the next day", desk.pass(1), 1);
    }

    static void promise13_unbilledCopiesCountForTheDay() {
        EmbargoDesk desk = new EmbargoDesk();
        desk.addClient(255, 0, 0, 2, 2000000000);
        for (int story = 0; story < 3; story++) {
            Desks.release(desk, "0 1 @0 a");
        }
        CHECK.due("two come", desk.pass(1), 2);
        CHECK.due("one is not billed", desk.client(0, 10), 1);
        CHECK.due("the third waits", desk.copy(2, 0, 0), 0);
    }

    // ---- the ten persons

    static void promise24_tenPersons() {
        EmbargoDesk desk = new EmbargoDesk();
        for (int person = 0; person < 10; person++) {
            CHECK.due("persons in bylines", desk.count(11), person);
            Desks.read(desk, "0 " + person + " @0 a");
            CHECK.due("stories of person " + person, desk.person(person, 2), 1);
        }
        CHECK.due("persons in bylines", desk.count(11), 10);
        Desks.read(desk, "0 9,0,5 @0 a");
        CHECK.due("each once", desk.count(11), 10);
        CHECK.due("stories of person 9", desk.person(9, 2), 2);
        CHECK.due("person 10", desk.person(10, 2), UNKNOWN);
    }

    static void promise19_bylinesOf1To3Persons() {
        String[] texts = {"0 9 @0 a", "0 9,8 @0 a", "0 9,8,7 @0 a"};
        for (int persons = 1; persons <= 3; persons++) {
            EmbargoDesk desk = new EmbargoDesk();
            CHECK.due("readStory", Desks.read(desk, texts[persons - 1]), 0);
            CHECK.due("persons", desk.story(0, 1), persons);
            for (int place = 0; place < 4; place++) {
                CHECK.due("place " + place + " of " + persons, desk.byline(0, place), place < persons ? 9 - place : NONE);
            }
        }
    }

    static void promise19_slugsOf1To12Letters() {
        for (int letters = 1; letters <= 12; letters++) {
            EmbargoDesk desk = new EmbargoDesk();
            CHECK.due("readStory", Desks.read(desk, "0 9 @0 " + "zyxwvutsrqpo".substring(0, letters)), 0);
            CHECK.due("letters", desk.story(0, 7), letters);
            for (int index = 0; index <= 12; index++) {
                CHECK.due("letter " + index + " of " + letters, desk.slugChar(0, index), index < letters ? 'z' - index : NONE);
            }
        }
    }

    static void promise19_topics0To7() {
        for (int topic = 0; topic <= 7; topic++) {
            EmbargoDesk desk = new EmbargoDesk();
            for (int client = 0; client < 8; client++) {
                desk.addClient(1 << client, 0, 0, 1, 0);
            }
            Desks.read(desk, topic + " 1 @0 a");
            CHECK.due("topic", desk.story(0, 0), topic);
            CHECK.due("one client has it", desk.release(0), 1);
            desk.pass(1);
            CHECK.due("its copy", desk.copyAt(0), topic);
            CHECK.due("no other", desk.copyAt(1), NONE);
        }
    }

    static void promise03_allButOneTopic() {
        for (int topic = 0; topic <= 7; topic++) {
            EmbargoDesk desk = Scenes.oneClient(0, 0, 0);
            CHECK.due("setTopics", desk.setTopics(0, 255 - (1 << topic)), 255);
            Desks.read(desk, topic + " 1 @0 a");
            CHECK.due("release", desk.release(0), 0);
            desk.pass(1);
            CHECK.due("copies", desk.count(3), 0);
        }
    }
}
