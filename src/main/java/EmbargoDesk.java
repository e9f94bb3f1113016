/** A news desk, as ../shared/DOC.md describes it. All rows are made once, with the object, and used again. */
public final class EmbargoDesk {
    public static final int UNKNOWN = -1;
    public static final int BAD_VALUE = -2;
    public static final int FULL = -3;
    public static final int NOT_POSSIBLE = -4;
    public static final int NONE = -5;

    private static final int PERSONS = 10;
    private static final int MAX_STORIES = 20;
    private static final int MAX_CLIENTS = 8;
    private static final int MAX_COPIES = MAX_STORIES * MAX_CLIENTS;
    private static final int MAX_BYLINE = 3;
    private static final int MAX_SLUG = 12;
    private static final int MAX_CORRECTIONS = 6;
    private static final int MAX_TOPIC = 7;
    private static final int ALL_TOPICS = 255;
    private static final int MAX_DELAY = 48;
    private static final int MAX_LAG = 24;
    private static final int MAX_LIMIT = 9;
    private static final int MAX_CENTS = 2000000000;
    private static final int MAX_SUM = 2147483647;
    private static final int MAX_EMBARGO = 999;
    private static final int EMBARGO_DIGITS = 3;
    private static final int MAX_USE_DAYS = 9;
    private static final int FIRST_USE_DAYS = 3;
    private static final int DAY = 24;
    private static final int MAX_HOURS = 100;
    private static final int LAST_HOUR = 9999;
    private static final int TEXT_ROOM = 40;
    private static final int LOG_ROOM = 12;
    private static final int HISTORY_ROOM = 4;
    private static final int FIRST_FAULT = -100;
    private static final int NO_FAULT = -1;
    private static final int NO_SIGN = -1;
    private static final int ANY = -1;

    // The states of a story, as story(.., 3) tells them.
    private static final int HELD = 0;
    private static final int RELEASED = 1;
    private static final int PUBLISHED = 2;
    private static final int KILLED = 3;

    // The states of a copy, as copy(.., 0) tells them.
    private static final int PLANNED = 0;
    private static final int IN_USE = 1;
    private static final int WITHDRAWN = 2;
    private static final int ENDED = 3;
    private static final int DROPPED = 4;

    // The kinds of events, as event(.., 0) tells them.
    private static final int STORY_PUBLISHED = 0;
    private static final int COPY_STARTED = 1;
    private static final int COPY_CORRECTED = 2;
    private static final int COPY_WITHDRAWN = 3;
    private static final int COPY_ENDED = 4;
    private static final int STORY_CORRECTED = 5;
    private static final int STORY_KILLED = 6;

    private final State state = new State();
    private final State imagined = new State();
    private final State snapshot = new State();
    private boolean hasSnapshot;
    private final History history = new History();
    private final StoryText text = new StoryText();

    public EmbargoDesk() {
    }

    // ---- clients

    public int addClient(int topics, int delay, int lag, int limit, int fee) {
        if (!isBetween(topics, 1, ALL_TOPICS) || !isBetween(delay, 0, MAX_DELAY) || !isBetween(lag, 0, MAX_LAG)
                || !isBetween(limit, 1, MAX_LIMIT) || !isBetween(fee, 0, MAX_CENTS)) {
            return BAD_VALUE;
        }
        if (state.clientCount >= MAX_CLIENTS) {
            return FULL;
        }
        history.remember(state);
        int number = state.clientCount;
        state.clientCount++;
        Client added = state.clientAt(number);
        if (added != null) {
            added.begin(topics, delay, lag, limit, fee);
        }
        return number;
    }

    public int setTopics(int client, int topics) {
        Client found = state.clientAt(client);
        if (found == null) {
            return UNKNOWN;
        }
        if (!isBetween(topics, 1, ALL_TOPICS)) {
            return BAD_VALUE;
        }
        if (found.topics == topics) {
            return NONE;
        }
        history.remember(state);
        int previous = found.topics;
        found.topics = topics;
        return previous;
    }

    public int setUp(int client, boolean up) {
        Client found = state.clientAt(client);
        if (found == null) {
            return UNKNOWN;
        }
        if (found.up == up) {
            return NONE;
        }
        history.remember(state);
        found.up = up;
        return state.copiesOf(ANY, client, PLANNED) + state.copiesOf(ANY, client, IN_USE);
    }

    public int setUse(int days) {
        if (!isBetween(days, 1, MAX_USE_DAYS)) {
            return BAD_VALUE;
        }
        if (state.useDays == days) {
            return NONE;
        }
        history.remember(state);
        int previous = state.useDays;
        state.useDays = days;
        return previous;
    }

    public int pay(int client, int cents) {
        Client found = state.clientAt(client);
        if (found == null) {
            return UNKNOWN;
        }
        if (!isBetween(cents, 1, MAX_CENTS)) {
            return BAD_VALUE;
        }
        if (found.owed < cents) {
            return NOT_POSSIBLE;
        }
        history.remember(state);
        found.owed -= cents;
        return found.owed;
    }

    // ---- stories

    public int readStory() {
        int fault = text.parse();
        if (fault != NO_FAULT) {
            return FIRST_FAULT - fault;
        }
        if (state.storyCount >= MAX_STORIES) {
            return FULL;
        }
        history.remember(state);
        int number = state.storyCount;
        state.storyCount++;
        Story added = state.storyAt(number);
        if (added != null) {
            added.begin(text);
        }
        return number;
    }

    public int release(int story) {
        Story found = state.storyAt(story);
        if (found == null) {
            return UNKNOWN;
        }
        if (found.state != HELD) {
            return NOT_POSSIBLE;
        }
        history.remember(state);
        found.state = RELEASED;
        return state.clientsFor(found.topic);
    }

    public int hold(int story) {
        Story found = state.storyAt(story);
        if (found == null) {
            return UNKNOWN;
        }
        if (found.state != RELEASED) {
            return NOT_POSSIBLE;
        }
        history.remember(state);
        found.state = HELD;
        return Math.max(found.embargo - state.hour, 0);
    }

    public int setEmbargo(int story, int hour) {
        Story found = state.storyAt(story);
        if (found == null) {
            return UNKNOWN;
        }
        if (!isBetween(hour, 0, MAX_EMBARGO)) {
            return BAD_VALUE;
        }
        if (found.state != HELD && found.state != RELEASED) {
            return NOT_POSSIBLE;
        }
        if (found.embargo == hour) {
            return NONE;
        }
        history.remember(state);
        int previous = found.embargo;
        found.embargo = hour;
        return previous;
    }

    public int correct(int story) {
        Story found = state.storyAt(story);
        if (found == null) {
            return UNKNOWN;
        }
        if (found.state != PUBLISHED) {
            return NOT_POSSIBLE;
        }
        if (found.version >= MAX_CORRECTIONS) {
            return FULL;
        }
        history.remember(state);
        found.addCorrection(state.hour);
        state.log.add(STORY_CORRECTED, story, NONE, state.hour);
        return found.version;
    }

    public int kill(int story) {
        Story found = state.storyAt(story);
        if (found == null) {
            return UNKNOWN;
        }
        if (found.state == KILLED) {
            return NONE;
        }
        history.remember(state);
        found.state = KILLED;
        found.killedAt = state.hour;
        state.log.add(STORY_KILLED, story, NONE, state.hour);
        return state.copiesOf(story, ANY, IN_USE);
    }

    public int pass(int hours) {
        if (!isBetween(hours, 1, MAX_HOURS)) {
            return BAD_VALUE;
        }
        if (state.hour + hours > LAST_HOUR) {
            return NOT_POSSIBLE;
        }
        history.remember(state);
        int before = state.copiesThatCame();
        for (int passed = 0; passed < hours; passed++) {
            state.passHour();
        }
        return state.copiesThatCame() - before;
    }

    // ---- texts

    public int type(char character) {
        if (text.length >= TEXT_ROOM) {
            return FULL;
        }
        text.add(character);
        return text.length;
    }

    public int clearText() {
        int previous = text.length;
        text.length = 0;
        return previous;
    }

    // ---- history

    public int undo() {
        if (history.size == 0) {
            return NONE;
        }
        history.takeLatest(state);
        return history.size;
    }

    public int keep() {
        snapshot.copyFrom(state);
        hasSnapshot = true;
        return state.hour;
    }

    public int restore() {
        if (!hasSnapshot) {
            return NONE;
        }
        history.remember(state);
        state.copyFrom(snapshot);
        return state.hour;
    }

    // ---- what is told

    public int story(int story, int what) {
        Story found = state.storyAt(story);
        if (found == null) {
            return UNKNOWN;
        }
        switch (what) {
            case 0: return found.topic;
            case 1: return found.bylineSize;
            case 2: return found.embargo;
            case 3: return found.state;
            case 4: return found.version;
            case 5: return found.publishedAt;
            case 6: return found.killedAt;
            case 7: return found.slugSize;
            case 8: return state.copiesOf(story, ANY, ANY);
            case 9: return state.copiesOf(story, ANY, IN_USE);
            case 10: return state.upToDateCopies(story);
            default: return BAD_VALUE;
        }
    }

    public int byline(int story, int place) {
        Story found = state.storyAt(story);
        if (found == null) {
            return UNKNOWN;
        }
        return place < 0 ? BAD_VALUE : found.authorAt(place);
    }

    public int slugChar(int story, int index) {
        Story found = state.storyAt(story);
        if (found == null) {
            return UNKNOWN;
        }
        return index < 0 ? BAD_VALUE : found.letterAt(index);
    }

    public int correction(int story, int k) {
        Story found = state.storyAt(story);
        if (found == null) {
            return UNKNOWN;
        }
        return k < 0 ? BAD_VALUE : found.correctedAt(k);
    }

    public int client(int client, int what) {
        Client found = state.clientAt(client);
        if (found == null) {
            return UNKNOWN;
        }
        switch (what) {
            case 0: return found.topics;
            case 1: return found.delay;
            case 2: return found.lag;
            case 3: return found.limit;
            case 4: return found.fee;
            case 5: return found.up ? 1 : 0;
            case 6: return found.owed;
            case 7: return found.today;
            case 8: return found.total;
            case 9: return state.copiesOf(ANY, client, IN_USE);
            case 10: return found.unbilled;
            default: return BAD_VALUE;
        }
    }

    public int person(int person, int what) {
        Person found = state.personAt(person);
        if (found == null) {
            return UNKNOWN;
        }
        switch (what) {
            case 0: return found.got;
            case 1: return found.lost;
            case 2: return state.storiesBy(person);
            case 3: return state.copiesInUseBy(person);
            default: return BAD_VALUE;
        }
    }

    public int copy(int story, int client, int what) {
        Copy found = state.copyFor(story, client);
        if (found == null) {
            return UNKNOWN;
        }
        switch (what) {
            case 0: return found.state;
            case 1: return found.due;
            case 2: return found.startedAt;
            case 3: return found.version;
            case 4: return state.correctionsMissing(found);
            case 5: return state.correctionsDue(found);
            case 6: return state.nextCorrectionAt(found);
            case 7: return state.killNoticeAt(found);
            case 8: return state.useEndsAt(found);
            default: return BAD_VALUE;
        }
    }

    public int copyAt(int place) {
        if (place < 0) {
            return BAD_VALUE;
        }
        Copy found = state.copyMade(place);
        return found == null ? NONE : 10 * found.story + found.client;
    }

    public int carriedIn(int story, int client) {
        imagined.copyFrom(state);
        Copy found = imagined.copyFor(story, client);
        Story source = imagined.storyAt(story);
        if (found == null || source == null) {
            return UNKNOWN;
        }
        for (int hours = 0; hours <= MAX_HOURS; hours++) {
            if (hours > 0) {
                imagined.passHour();
            }
            if (found.state == IN_USE && found.version == source.version) {
                return hours;
            }
        }
        return NONE;
    }

    public int wouldCome(int client, int hours) {
        imagined.copyFrom(state);
        Client found = imagined.clientAt(client);
        if (found == null) {
            return UNKNOWN;
        }
        if (!isBetween(hours, 1, MAX_HOURS)) {
            return BAD_VALUE;
        }
        int before = found.total;
        for (int passed = 0; passed < hours; passed++) {
            imagined.passHour();
        }
        return found.total - before;
    }

    public int event(int back, int what) {
        if (back < 0 || !isBetween(what, 0, Log.PARTS - 1)) {
            return BAD_VALUE;
        }
        return state.log.part(back, what);
    }

    public int count(int what) {
        switch (what) {
            case 0: return state.hour;
            case 1: return state.clientCount;
            case 2: return state.storyCount;
            case 3: return state.copyCount;
            case 4:
            case 5:
            case 6:
            case 7:
            case 8: return state.copiesOf(ANY, ANY, what - 4);
            case 9: return state.copiesWithCorrectionsDue();
            case 10: return state.corrected;
            case 11: return state.authors();
            case 12: return state.useDays;
            case 13: return history.size;
            case 14: return text.length;
            default: return BAD_VALUE;
        }
    }

    private static boolean isBetween(int value, int least, int most) {
        return value >= least && value <= most;
    }

    private static boolean isPlace(int index, int size) {
        return index >= 0 && index < size;
    }

    private static void copyRow(int[] from, int[] to) {
        System.arraycopy(from, 0, to, 0, Math.min(from.length, to.length));
    }

    /** A story with all that the document tells of it; a row of a state, used again after an undo. */
    private static final class Story {
        int topic;
        int bylineSize;
        final int[] byline = new int[MAX_BYLINE];
        int embargo;
        int slugSize;
        final int[] slug = new int[MAX_SLUG];
        int state;
        int version;
        final int[] corrections = new int[MAX_CORRECTIONS];
        int publishedAt;
        int killedAt;

        void begin(StoryText text) {
            topic = text.topic;
            bylineSize = text.bylineSize;
            copyRow(text.byline, byline);
            embargo = text.embargo;
            slugSize = text.slugSize;
            copyRow(text.slug, slug);
            state = HELD;
            version = 0;
            publishedAt = NONE;
            killedAt = NONE;
        }

        void copyFrom(Story other) {
            topic = other.topic;
            bylineSize = other.bylineSize;
            copyRow(other.byline, byline);
            embargo = other.embargo;
            slugSize = other.slugSize;
            copyRow(other.slug, slug);
            state = other.state;
            version = other.version;
            copyRow(other.corrections, corrections);
            publishedAt = other.publishedAt;
            killedAt = other.killedAt;
        }

        void addCorrection(int hour) {
            if (isPlace(version, corrections.length)) {
                corrections[version] = hour;
                version++;
            }
        }

        int authorAt(int place) {
            return isPlace(place, Math.min(bylineSize, byline.length)) ? byline[place] : NONE;
        }

        int letterAt(int index) {
            return isPlace(index, Math.min(slugSize, slug.length)) ? slug[index] : NONE;
        }

        int correctedAt(int k) {
            return isPlace(k, Math.min(version, corrections.length)) ? corrections[k] : NONE;
        }

        boolean isBy(int person) {
            for (int place = 0; place < bylineSize; place++) {
                if (authorAt(place) == person) {
                    return true;
                }
            }
            return false;
        }
    }

    private static final class Client {
        int topics;
        int delay;
        int lag;
        int limit;
        int fee;
        boolean up;
        int owed;
        int today;
        int total;
        int unbilled;

        void begin(int newTopics, int newDelay, int newLag, int newLimit, int newFee) {
            topics = newTopics;
            delay = newDelay;
            lag = newLag;
            limit = newLimit;
            fee = newFee;
            up = true;
            owed = 0;
            today = 0;
            total = 0;
            unbilled = 0;
        }

        void copyFrom(Client other) {
            topics = other.topics;
            delay = other.delay;
            lag = other.lag;
            limit = other.limit;
            fee = other.fee;
            up = other.up;
            owed = other.owed;
            today = other.today;
            total = other.total;
            unbilled = other.unbilled;
        }

        boolean hasTopic(int topic) {
            return (topics >> topic & 1) == 1;
        }

        boolean canGetCopy() {
            return up && today < limit;
        }
    }

    private static final class Person {
        int got;
        int lost;

        void addShare(int share) {
            if ((long) got + share > MAX_SUM) {
                lost++;
            } else {
                got += share;
            }
        }
    }

    private static final class Copy {
        int story;
        int client;
        int state;
        int due;
        int startedAt;
        int version;

        void begin(int itsStory, int itsClient, int itsDue) {
            story = itsStory;
            client = itsClient;
            state = PLANNED;
            due = itsDue;
            startedAt = NONE;
            version = NONE;
        }

        boolean isOver() {
            return state != PLANNED && state != IN_USE;
        }

        void copyFrom(Copy other) {
            story = other.story;
            client = other.client;
            state = other.state;
            due = other.due;
            startedAt = other.startedAt;
            version = other.version;
        }
    }

    /** The latest events, in a ring: the newest one overwrites the oldest. */
    private static final class Log {
        static final int PARTS = 4;

        private final int[] cells = new int[LOG_ROOM * PARTS];
        private int newest;
        private int size;

        void add(int kind, int story, int client, int hour) {
            newest = (newest + 1) % LOG_ROOM;
            size = Math.min(size + 1, LOG_ROOM);
            int at = newest * PARTS;
            if (isPlace(at, cells.length - PARTS + 1)) {
                cells[at] = kind;
                cells[at + 1] = story;
                cells[at + 2] = client;
                cells[at + 3] = hour;
            }
        }

        int part(int back, int what) {
            if (!isPlace(back, size)) {
                return NONE;
            }
            int at = (newest - back + LOG_ROOM) % LOG_ROOM * PARTS + what;
            return isPlace(at, cells.length) ? cells[at] : NONE;
        }

        void copyFrom(Log other) {
            copyRow(other.cells, cells);
            newest = other.newest;
            size = other.size;
        }
    }

    /** All that undo and restore bring back: everything but the text, the history and the snapshot. */
    private static final class State {
        int hour;
        int useDays = FIRST_USE_DAYS;
        int corrected;
        int storyCount;
        int clientCount;
        int copyCount;
        final Log log = new Log();
        private final Story[] stories = new Story[MAX_STORIES];
        private final Client[] clients = new Client[MAX_CLIENTS];
        private final Copy[] copies = new Copy[MAX_COPIES];
        private final Person[] persons = new Person[PERSONS];

        State() {
            for (int number = 0; number < stories.length; number++) {
                stories[number] = new Story();
            }
            for (int number = 0; number < clients.length; number++) {
                clients[number] = new Client();
            }
            for (int place = 0; place < copies.length; place++) {
                copies[place] = new Copy();
            }
            for (int number = 0; number < persons.length; number++) {
                persons[number] = new Person();
            }
        }

        void copyFrom(State other) {
            hour = other.hour;
            useDays = other.useDays;
            corrected = other.corrected;
            log.copyFrom(other.log);
            copyStories(other);
            copyClients(other);
            copyCopies(other);
            copyPersons(other);
        }

        private void copyStories(State other) {
            storyCount = other.storyCount;
            for (int number = 0; number < storyCount; number++) {
                Story mine = storyAt(number);
                Story theirs = other.storyAt(number);
                if (mine != null && theirs != null) {
                    mine.copyFrom(theirs);
                }
            }
        }

        private void copyClients(State other) {
            clientCount = other.clientCount;
            for (int number = 0; number < clientCount; number++) {
                Client mine = clientAt(number);
                Client theirs = other.clientAt(number);
                if (mine != null && theirs != null) {
                    mine.copyFrom(theirs);
                }
            }
        }

        private void copyCopies(State other) {
            copyCount = other.copyCount;
            for (int place = 0; place < copyCount; place++) {
                Copy mine = copyMade(place);
                Copy theirs = other.copyMade(place);
                if (mine != null && theirs != null) {
                    mine.copyFrom(theirs);
                }
            }
        }

        private void copyPersons(State other) {
            for (int number = 0; number < PERSONS; number++) {
                Person mine = personAt(number);
                Person theirs = other.personAt(number);
                if (mine != null && theirs != null) {
                    mine.got = theirs.got;
                    mine.lost = theirs.lost;
                }
            }
        }

        Story storyAt(int number) {
            return isPlace(number, Math.min(storyCount, stories.length)) ? stories[number] : null;
        }

        Client clientAt(int number) {
            return isPlace(number, Math.min(clientCount, clients.length)) ? clients[number] : null;
        }

        Copy copyMade(int place) {
            return isPlace(place, Math.min(copyCount, copies.length)) ? copies[place] : null;
        }

        Person personAt(int number) {
            return isPlace(number, persons.length) ? persons[number] : null;
        }

        Copy copyFor(int story, int client) {
            for (int place = 0; place < copyCount; place++) {
                Copy copy = copyMade(place);
                if (copy != null && copy.story == story && copy.client == client) {
                    return copy;
                }
            }
            return null;
        }

        // ---- an hour

        void passHour() {
            hour++;
            if (hour % DAY == 0) {
                startDay();
            }
            for (int number = 0; number < storyCount; number++) {
                Story story = storyAt(number);
                if (story != null && story.state == RELEASED && story.embargo <= hour) {
                    publish(number, story);
                }
            }
            for (int place = 0; place < copyCount; place++) {
                Copy copy = copyMade(place);
                if (copy != null && !copy.isOver()) {
                    moveOn(copy);
                }
            }
        }

        private void startDay() {
            for (int number = 0; number < clientCount; number++) {
                Client client = clientAt(number);
                if (client != null) {
                    client.today = 0;
                }
            }
        }

        private void publish(int number, Story story) {
            story.state = PUBLISHED;
            story.publishedAt = hour;
            log.add(STORY_PUBLISHED, number, NONE, hour);
            for (int client = 0; client < clientCount; client++) {
                Client receiver = clientAt(client);
                if (receiver != null && receiver.hasTopic(story.topic)) {
                    planCopy(number, client, hour + receiver.delay);
                }
            }
        }

        private void planCopy(int story, int client, int due) {
            if (copyCount >= MAX_COPIES) {
                return;
            }
            copyCount++;
            Copy planned = copyMade(copyCount - 1);
            if (planned != null) {
                planned.begin(story, client, due);
            }
        }

        private void moveOn(Copy copy) {
            Story story = storyAt(copy.story);
            Client client = clientAt(copy.client);
            if (story == null || client == null) {
                return;
            }
            if (copy.state == PLANNED) {
                if (story.state == KILLED) {
                    copy.state = DROPPED;
                } else if (copy.due <= hour && client.canGetCopy()) {
                    startUse(copy, story, client);
                }
            }
            if (copy.state == IN_USE && useEndsAt(copy) <= hour) {
                copy.state = ENDED;
                log.add(COPY_ENDED, copy.story, copy.client, hour);
            }
            if (copy.state == IN_USE && client.up) {
                reach(copy, story);
            }
        }

        private void startUse(Copy copy, Story story, Client client) {
            copy.state = IN_USE;
            copy.startedAt = hour;
            copy.version = story.version;
            client.today++;
            client.total++;
            log.add(COPY_STARTED, copy.story, copy.client, hour);
            bill(story, client);
        }

        private void bill(Story story, Client client) {
            if ((long) client.owed + client.fee > MAX_SUM) {
                client.unbilled++;
                return;
            }
            client.owed += client.fee;
            if (story.bylineSize <= 0) {
                return;
            }
            int share = client.fee / story.bylineSize;
            int leftOver = client.fee % story.bylineSize;
            for (int place = 0; place < story.bylineSize; place++) {
                Person author = personAt(story.authorAt(place));
                if (author != null) {
                    author.addShare(place == 0 ? share + leftOver : share);
                }
            }
        }

        /** What comes to a copy in use whose client is up: the kill notice, or else the corrections. */
        private void reach(Copy copy, Story story) {
            if (story.state == KILLED && killNoticeAt(copy) <= hour) {
                copy.state = WITHDRAWN;
                log.add(COPY_WITHDRAWN, copy.story, copy.client, hour);
                return;
            }
            int due = correctionsDue(copy);
            for (int got = 0; got < due; got++) {
                copy.version++;
                corrected++;
                log.add(COPY_CORRECTED, copy.story, copy.client, hour);
            }
        }

        // ---- what is due for a copy

        int correctionsMissing(Copy copy) {
            Story story = storyAt(copy.story);
            return story == null || copy.state != IN_USE ? 0 : story.version - copy.version;
        }

        int correctionsDue(Copy copy) {
            Story story = storyAt(copy.story);
            Client client = clientAt(copy.client);
            if (story == null || client == null || copy.state != IN_USE) {
                return 0;
            }
            int due = 0;
            for (int k = copy.version; k < story.version; k++) {
                if (story.correctedAt(k) + client.lag <= hour) {
                    due++;
                }
            }
            return due;
        }

        int nextCorrectionAt(Copy copy) {
            Story story = storyAt(copy.story);
            Client client = clientAt(copy.client);
            if (story == null || client == null || correctionsMissing(copy) == 0) {
                return NONE;
            }
            return story.correctedAt(copy.version) + client.lag;
        }

        int killNoticeAt(Copy copy) {
            Story story = storyAt(copy.story);
            Client client = clientAt(copy.client);
            if (story == null || client == null || story.state != KILLED || copy.state != IN_USE) {
                return NONE;
            }
            return story.killedAt + client.lag / 2;
        }

        int useEndsAt(Copy copy) {
            return copy.state == IN_USE ? copy.startedAt + useDays * DAY : NONE;
        }

        // ---- numbers of clients, copies, stories and authors

        int clientsFor(int topic) {
            int number = 0;
            for (int client = 0; client < clientCount; client++) {
                Client receiver = clientAt(client);
                if (receiver != null && receiver.hasTopic(topic)) {
                    number++;
                }
            }
            return number;
        }

        int copiesThatCame() {
            int number = 0;
            for (int client = 0; client < clientCount; client++) {
                Client receiver = clientAt(client);
                if (receiver != null) {
                    number += receiver.total;
                }
            }
            return number;
        }

        /** The copies of a story, for a client, in a state; ANY in a place of these asks for all of them. */
        int copiesOf(int story, int client, int copyState) {
            int number = 0;
            for (int place = 0; place < copyCount; place++) {
                Copy copy = copyMade(place);
                if (copy != null && fits(story, copy.story) && fits(client, copy.client)
                        && fits(copyState, copy.state)) {
                    number++;
                }
            }
            return number;
        }

        private static boolean fits(int wanted, int value) {
            return wanted == ANY || wanted == value;
        }

        int upToDateCopies(int story) {
            int number = 0;
            for (int place = 0; place < copyCount; place++) {
                Copy copy = copyMade(place);
                if (copy != null && copy.story == story && copy.state == IN_USE && correctionsMissing(copy) == 0) {
                    number++;
                }
            }
            return number;
        }

        int copiesWithCorrectionsDue() {
            int number = 0;
            for (int place = 0; place < copyCount; place++) {
                Copy copy = copyMade(place);
                if (copy != null && correctionsDue(copy) > 0) {
                    number++;
                }
            }
            return number;
        }

        int storiesBy(int person) {
            int number = 0;
            for (int index = 0; index < storyCount; index++) {
                Story story = storyAt(index);
                if (story != null && story.isBy(person)) {
                    number++;
                }
            }
            return number;
        }

        int copiesInUseBy(int person) {
            int number = 0;
            for (int index = 0; index < storyCount; index++) {
                Story story = storyAt(index);
                if (story != null && story.isBy(person)) {
                    number += copiesOf(index, ANY, IN_USE);
                }
            }
            return number;
        }

        int authors() {
            int number = 0;
            for (int person = 0; person < PERSONS; person++) {
                if (storiesBy(person) > 0) {
                    number++;
                }
            }
            return number;
        }
    }

    /** The states that undo goes back to, the oldest one first. */
    private static final class History {
        private final State[] rows = new State[HISTORY_ROOM];
        int size;

        History() {
            for (int place = 0; place < rows.length; place++) {
                rows[place] = new State();
            }
        }

        void remember(State state) {
            if (size >= rows.length) {
                dropOldest();
            }
            State row = isPlace(size, rows.length) ? rows[size] : null;
            if (row != null) {
                row.copyFrom(state);
                size++;
            }
        }

        /** The dropped row goes to the end, where the next state is recorded in it. */
        private void dropOldest() {
            for (int place = 0; place + 1 < rows.length; place++) {
                State moved = rows[place];
                rows[place] = rows[place + 1];
                rows[place + 1] = moved;
            }
            size--;
        }

        void takeLatest(State target) {
            State latest = isPlace(size - 1, rows.length) ? rows[size - 1] : null;
            if (latest != null) {
                target.copyFrom(latest);
                size--;
            }
        }
    }

    /** The text that is typed, and the parts of the story that parse() read in it. */
    private static final class StoryText {
        private final int[] signs = new int[TEXT_ROOM];
        int length;
        private int at;
        int topic;
        int bylineSize;
        final int[] byline = new int[MAX_BYLINE];
        int embargo;
        int slugSize;
        final int[] slug = new int[MAX_SLUG];

        void add(char character) {
            if (isPlace(length, signs.length)) {
                signs[length] = character;
                length++;
            }
        }

        /** Returns NO_FAULT, or the fault: each step stops with 'at' on the sign that it does not allow. */
        int parse() {
            at = 0;
            boolean whole = readTopic() && readSign(' ') && readByline() && readSign(' ') && readSign('@')
                    && readEmbargo() && readSign(' ') && readSlug();
            return whole ? NO_FAULT : at;
        }

        private int sign() {
            return isPlace(at, Math.min(length, signs.length)) ? signs[at] : NO_SIGN;
        }

        private int digit() {
            return isBetween(sign(), '0', '9') ? sign() - '0' : NO_SIGN;
        }

        private boolean readSign(char wanted) {
            if (sign() != wanted) {
                return false;
            }
            at++;
            return true;
        }

        private boolean readTopic() {
            topic = digit();
            if (!isBetween(topic, 0, MAX_TOPIC)) {
                return false;
            }
            at++;
            return true;
        }

        private boolean readByline() {
            bylineSize = 0;
            for (int place = 0; place < MAX_BYLINE; place++) {
                if (place > 0 && !readSign(',')) {
                    return true;
                }
                if (!readPerson()) {
                    return false;
                }
            }
            return true;
        }

        private boolean readPerson() {
            int person = digit();
            if (person == NO_SIGN || isInByline(person) || !isPlace(bylineSize, byline.length)) {
                return false;
            }
            byline[bylineSize] = person;
            bylineSize++;
            at++;
            return true;
        }

        private boolean isInByline(int person) {
            for (int place = 0; place < bylineSize && place < byline.length; place++) {
                if (byline[place] == person) {
                    return true;
                }
            }
            return false;
        }

        private boolean readEmbargo() {
            embargo = digit();
            if (embargo == NO_SIGN) {
                return false;
            }
            at++;
            // No digit follows a zero: zeros in front are not allowed.
            for (int digits = 1; digits < EMBARGO_DIGITS && embargo != 0 && digit() != NO_SIGN; digits++) {
                embargo = embargo * 10 + digit();
                at++;
            }
            return true;
        }

        private boolean readSlug() {
            slugSize = 0;
            for (int index = 0; index < slug.length && isBetween(sign(), 'a', 'z'); index++) {
                slug[index] = sign();
                slugSize++;
                at++;
            }
            return slugSize > 0 && at == length;
        }
    }
}
