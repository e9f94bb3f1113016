import java.math.BigInteger;
import java.util.ArrayList;
import java.util.HashMap;
import java.util.HashSet;
import java.util.LinkedList;
import java.util.List;
import java.util.Map;
import java.util.Set;
import java.util.regex.Pattern;

/**
 * A second reading of the document, written apart from the program and in another way: each state is a value that is
 * copied whole before an act, a copy finds its story and client by maps, and sums are kept without a bound.
 */
final class DeskModel {
    private static final int UNKNOWN = -1;
    private static final int BAD_VALUE = -2;
    private static final int FULL = -3;
    private static final int NOT_POSSIBLE = -4;
    private static final int NONE = -5;
    private static final BigInteger MOST = BigInteger.valueOf(2147483647);

    private static final class S {
        int topic;
        List<Integer> persons;
        int embargo;
        String slug;
        String state = "held";
        Integer published;
        Integer killed;
        List<Integer> corrections = new ArrayList<>();

        S twin() {
            S twin = new S();
            twin.topic = topic;
            twin.persons = persons;
            twin.embargo = embargo;
            twin.slug = slug;
            twin.state = state;
            twin.published = published;
            twin.killed = killed;
            twin.corrections = new ArrayList<>(corrections);
            return twin;
        }
    }

    private static final class C {
        Set<Integer> topics;
        int delay;
        int lag;
        int limit;
        int fee;
        boolean up = true;
        BigInteger owes = BigInteger.ZERO;
        List<Integer> came = new ArrayList<>();
        int unbilled;

        C twin() {
            C twin = new C();
            twin.topics = topics;
            twin.delay = delay;
            twin.lag = lag;
            twin.limit = limit;
            twin.fee = fee;
            twin.up = up;
            twin.owes = owes;
            twin.came = new ArrayList<>(came);
            twin.unbilled = unbilled;
            return twin;
        }
    }

    private static final class K {
        int story;
        int client;
        String state = "planned";
        int due;
        Integer start;
        Integer version;

        K twin() {
            K twin = new K();
            twin.story = story;
            twin.client = client;
            twin.state = state;
            twin.due = due;
            twin.start = start;
            twin.version = version;
            return twin;
        }
    }

    private static final class World {
        int hour;
        int days = 3;
        int carried;
        List<S> stories = new ArrayList<>();
        List<C> clients = new ArrayList<>();
        List<K> copies = new ArrayList<>();
        Map<Integer, BigInteger> got = new HashMap<>();
        Map<Integer, Integer> lost = new HashMap<>();
        LinkedList<int[]> log = new LinkedList<>();

        World twin() {
            World twin = new World();
            twin.hour = hour;
            twin.days = days;
            twin.carried = carried;
            stories.forEach(s -> twin.stories.add(s.twin()));
            clients.forEach(c -> twin.clients.add(c.twin()));
            copies.forEach(k -> twin.copies.add(k.twin()));
            twin.got.putAll(got);
            twin.lost.putAll(lost);
            twin.log.addAll(log);
            return twin;
        }

        void tell(int kind, int story, int client) {
            log.addFirst(new int[] {kind, story, client, hour});
            while (log.size() > 12) {
                log.removeLast();
            }
        }

        int today(C client) {
            // The day of an hour begins with the hour that can be divided by 24.
            return (int) client.came.stream().filter(at -> at / 24 == hour / 24).count();
        }

        void oneHour() {
            hour++;
            for (int number = 0; number < stories.size(); number++) {
                S story = stories.get(number);
                if (!story.state.equals("released") || story.embargo > hour) {
                    continue;
                }
                story.state = "published";
                story.published = hour;
                tell(0, number, NONE);
                for (int client = 0; client < clients.size(); client++) {
                    if (clients.get(client).topics.contains(story.topic)) {
                        K copy = new K();
                        copy.story = number;
                        copy.client = client;
                        copy.due = hour + clients.get(client).delay;
                        copies.add(copy);
                    }
                }
            }
            for (K copy : copies) {
                go(copy, stories.get(copy.story), clients.get(copy.client));
            }
        }

        private void go(K copy, S story, C client) {
            if (copy.state.equals("planned") && story.state.equals("killed")) {
                copy.state = "dropped";
            }
            if (copy.state.equals("planned") && hour >= copy.due && client.up && today(client) < client.limit) {
                copy.state = "in use";
                copy.start = hour;
                copy.version = story.corrections.size();
                client.came.add(hour);
                tell(1, copy.story, copy.client);
                bill(story, client);
            }
            if (copy.state.equals("in use") && hour >= copy.start + 24 * days) {
                copy.state = "ended";
                tell(4, copy.story, copy.client);
            }
            if (copy.state.equals("in use") && client.up) {
                if (story.state.equals("killed") && hour >= story.killed + client.lag / 2) {
                    copy.state = "withdrawn";
                    tell(3, copy.story, copy.client);
                } else {
                    while (copy.version < story.corrections.size()
                            && hour >= story.corrections.get(copy.version) + client.lag) {
                        copy.version++;
                        carried++;
                        tell(2, copy.story, copy.client);
                    }
                }
            }
        }

        private void bill(S story, C client) {
            BigInteger sum = client.owes.add(BigInteger.valueOf(client.fee));
            if (sum.compareTo(MOST) > 0) {
                client.unbilled++;
                return;
            }
            client.owes = sum;
            int heads = story.persons.size();
            int rest = client.fee;
            // From behind: what is left at the end is the share of the first one with what is left over.
            Map<Integer, Integer> shares = new HashMap<>();
            for (int i = heads - 1; i > 0; i--) {
                shares.put(story.persons.get(i), client.fee / heads);
                rest -= client.fee / heads;
            }
            shares.put(story.persons.get(0), rest);
            shares.forEach((person, share) -> {
                BigInteger has = got.getOrDefault(person, BigInteger.ZERO).add(BigInteger.valueOf(share));
                if (has.compareTo(MOST) > 0) {
                    lost.merge(person, 1, Integer::sum);
                } else {
                    got.put(person, has);
                }
            });
        }

        K find(int story, int client) {
            return copies.stream().filter(k -> k.story == story && k.client == client).findFirst().orElse(null);
        }
    }

    private static final Pattern STORY =
        Pattern.compile("([0-7]) ([0-9])(?:,(?!\\2)([0-9])(?:,(?!\\2|\\3)([0-9]))?)? @(0|[1-9][0-9]{0,2}) ([a-z]{1,12})");

    private World world = new World();
    private World kept;
    private final LinkedList<World> past = new LinkedList<>();
    private String text = "";

    private void act() {
        past.addLast(world.twin());
        if (past.size() > 4) {
            past.removeFirst();
        }
    }

    private static Set<Integer> bits(int topics) {
        Set<Integer> bits = new HashSet<>();
        for (int topic = 0; topic < 8; topic++) {
            if (topics / (1 << topic) % 2 == 1) {
                bits.add(topic);
            }
        }
        return bits;
    }

    private static int number(Set<Integer> bits) {
        return bits.stream().mapToInt(topic -> 1 << topic).sum();
    }

    private static boolean out(int value, int least, int most) {
        return value < least || value > most;
    }

    private static boolean isIn(List<?> list, int index) {
        return index >= 0 && index < list.size();
    }

    int addClient(int topics, int delay, int lag, int limit, int fee) {
        if (out(topics, 1, 255) || out(delay, 0, 48) || out(lag, 0, 24) || out(limit, 1, 9) || out(fee, 0, 2000000000)) {
            return BAD_VALUE;
        }
        if (world.clients.size() == 8) {
            return FULL;
        }
        act();
        C client = new C();
        client.topics = bits(topics);
        client.delay = delay;
        client.lag = lag;
        client.limit = limit;
        client.fee = fee;
        world.clients.add(client);
        return world.clients.size() - 1;
    }

    int setTopics(int client, int topics) {
        if (!isIn(world.clients, client)) {
            return UNKNOWN;
        }
        if (out(topics, 1, 255)) {
            return BAD_VALUE;
        }
        int previous = number(world.clients.get(client).topics);
        if (previous == topics) {
            return NONE;
        }
        act();
        world.clients.get(client).topics = bits(topics);
        return previous;
    }

    int setUp(int client, boolean up) {
        if (!isIn(world.clients, client)) {
            return UNKNOWN;
        }
        if (world.clients.get(client).up == up) {
            return NONE;
        }
        act();
        world.clients.get(client).up = up;
        return (int) world.copies.stream().filter(k -> k.client == client)
            .filter(k -> k.state.equals("planned") || k.state.equals("in use")).count();
    }

    int setUse(int days) {
        if (out(days, 1, 9)) {
            return BAD_VALUE;
        }
        int previous = world.days;
        if (previous == days) {
            return NONE;
        }
        act();
        world.days = days;
        return previous;
    }

    int pay(int client, int cents) {
        if (!isIn(world.clients, client)) {
            return UNKNOWN;
        }
        if (out(cents, 1, 2000000000)) {
            return BAD_VALUE;
        }
        BigInteger left = world.clients.get(client).owes.subtract(BigInteger.valueOf(cents));
        if (left.signum() < 0) {
            return NOT_POSSIBLE;
        }
        act();
        world.clients.get(client).owes = left;
        return left.intValueExact();
    }

    int readStory() {
        java.util.regex.Matcher matcher = STORY.matcher(text);
        if (!matcher.matches()) {
            return -100 - fault();
        }
        if (world.stories.size() == 20) {
            return FULL;
        }
        act();
        S story = new S();
        story.topic = Integer.parseInt(matcher.group(1));
        story.persons = new ArrayList<>();
        for (int group = 2; group <= 4; group++) {
            if (matcher.group(group) != null) {
                story.persons.add(Integer.parseInt(matcher.group(group)));
            }
        }
        story.embargo = Integer.parseInt(matcher.group(5));
        story.slug = matcher.group(6);
        world.stories.add(story);
        return world.stories.size() - 1;
    }

    private int fault() {
        for (int end = text.length(); end > 0; end--) {
            java.util.regex.Matcher matcher = STORY.matcher(text.substring(0, end));
            if (matcher.matches() || matcher.hitEnd()) {
                return end;
            }
        }
        return 0;
    }

    int release(int story) {
        if (!isIn(world.stories, story)) {
            return UNKNOWN;
        }
        if (!world.stories.get(story).state.equals("held")) {
            return NOT_POSSIBLE;
        }
        act();
        world.stories.get(story).state = "released";
        int topic = world.stories.get(story).topic;
        return (int) world.clients.stream().filter(c -> c.topics.contains(topic)).count();
    }

    int hold(int story) {
        if (!isIn(world.stories, story)) {
            return UNKNOWN;
        }
        if (!world.stories.get(story).state.equals("released")) {
            return NOT_POSSIBLE;
        }
        act();
        world.stories.get(story).state = "held";
        int embargo = world.stories.get(story).embargo;
        return embargo < world.hour ? 0 : embargo - world.hour;
    }

    int setEmbargo(int story, int hour) {
        if (!isIn(world.stories, story)) {
            return UNKNOWN;
        }
        if (out(hour, 0, 999)) {
            return BAD_VALUE;
        }
        S found = world.stories.get(story);
        if (found.state.equals("published") || found.state.equals("killed")) {
            return NOT_POSSIBLE;
        }
        int previous = found.embargo;
        if (previous == hour) {
            return NONE;
        }
        act();
        found.embargo = hour;
        return previous;
    }

    int correct(int story) {
        if (!isIn(world.stories, story)) {
            return UNKNOWN;
        }
        S found = world.stories.get(story);
        if (!found.state.equals("published")) {
            return NOT_POSSIBLE;
        }
        if (found.corrections.size() == 6) {
            return FULL;
        }
        act();
        found.corrections.add(world.hour);
        world.tell(5, story, NONE);
        return found.corrections.size();
    }

    int kill(int story) {
        if (!isIn(world.stories, story)) {
            return UNKNOWN;
        }
        S found = world.stories.get(story);
        if (found.state.equals("killed")) {
            return NONE;
        }
        act();
        found.state = "killed";
        found.killed = world.hour;
        world.tell(6, story, NONE);
        return (int) world.copies.stream().filter(k -> k.story == story && k.state.equals("in use")).count();
    }

    int pass(int hours) {
        if (out(hours, 1, 100)) {
            return BAD_VALUE;
        }
        if (world.hour + hours > 9999) {
            return NOT_POSSIBLE;
        }
        act();
        long before = world.copies.stream().filter(k -> k.start != null).count();
        for (int i = 0; i < hours; i++) {
            world.oneHour();
        }
        return (int) (world.copies.stream().filter(k -> k.start != null).count() - before);
    }

    int type(char character) {
        if (text.length() == 40) {
            return FULL;
        }
        text += character;
        return text.length();
    }

    int clearText() {
        int length = text.length();
        text = "";
        return length;
    }

    int undo() {
        if (past.isEmpty()) {
            return NONE;
        }
        world = past.removeLast();
        return past.size();
    }

    int keep() {
        kept = world.twin();
        return world.hour;
    }

    int restore() {
        if (kept == null) {
            return NONE;
        }
        act();
        world = kept.twin();
        return world.hour;
    }

    int story(int story, int what) {
        if (!isIn(world.stories, story)) {
            return UNKNOWN;
        }
        if (out(what, 0, 10)) {
            return BAD_VALUE;
        }
        S s = world.stories.get(story);
        List<K> all = world.copies.stream().filter(k -> k.story == story).toList();
        List<K> used = all.stream().filter(k -> k.state.equals("in use")).toList();
        int[] told = {s.topic, s.persons.size(), s.embargo,
            List.of("held", "released", "published", "killed").indexOf(s.state), s.corrections.size(),
            s.published == null ? NONE : s.published, s.killed == null ? NONE : s.killed, s.slug.length(), all.size(),
            used.size(), (int) used.stream().filter(k -> k.version == s.corrections.size()).count()};
        return told[what];
    }

    int byline(int story, int place) {
        return isIn(world.stories, story) ? at(world.stories.get(story).persons, place) : UNKNOWN;
    }

    int slugChar(int story, int index) {
        return isIn(world.stories, story)
            ? at(world.stories.get(story).slug.chars().boxed().toList(), index) : UNKNOWN;
    }

    int correction(int story, int k) {
        return isIn(world.stories, story) ? at(world.stories.get(story).corrections, k) : UNKNOWN;
    }

    private static int at(List<Integer> list, int index) {
        if (index < 0) {
            return BAD_VALUE;
        }
        return index < list.size() ? list.get(index) : NONE;
    }

    int client(int client, int what) {
        if (!isIn(world.clients, client)) {
            return UNKNOWN;
        }
        if (out(what, 0, 10)) {
            return BAD_VALUE;
        }
        C c = world.clients.get(client);
        int[] told = {number(c.topics), c.delay, c.lag, c.limit, c.fee, c.up ? 1 : 0, c.owes.intValueExact(),
            world.today(c), c.came.size(),
            (int) world.copies.stream().filter(k -> k.client == client && k.state.equals("in use")).count(), c.unbilled};
        return told[what];
    }

    int person(int person, int what) {
        if (out(person, 0, 9)) {
            return UNKNOWN;
        }
        if (out(what, 0, 3)) {
            return BAD_VALUE;
        }
        int[] told = {world.got.getOrDefault(person, BigInteger.ZERO).intValueExact(), world.lost.getOrDefault(person, 0),
            (int) world.stories.stream().filter(s -> s.persons.contains(person)).count(),
            (int) world.copies.stream().filter(k -> k.state.equals("in use"))
                .filter(k -> world.stories.get(k.story).persons.contains(person)).count()};
        return told[what];
    }

    int copy(int story, int client, int what) {
        K k = world.find(story, client);
        if (k == null) {
            return UNKNOWN;
        }
        if (out(what, 0, 8)) {
            return BAD_VALUE;
        }
        S s = world.stories.get(story);
        C c = world.clients.get(client);
        boolean used = k.state.equals("in use");
        List<Integer> missing = used ? s.corrections.subList(k.version, s.corrections.size()) : List.of();
        int[] told = {List.of("planned", "in use", "withdrawn", "ended", "dropped").indexOf(k.state), k.due,
            k.start == null ? NONE : k.start, k.version == null ? NONE : k.version, missing.size(),
            (int) missing.stream().filter(at -> at + c.lag <= world.hour).count(),
            missing.isEmpty() ? NONE : missing.get(0) + c.lag,
            used && s.killed != null ? s.killed + c.lag / 2 : NONE, used ? k.start + 24 * world.days : NONE};
        return told[what];
    }

    int copyAt(int place) {
        return at(world.copies.stream().map(k -> 10 * k.story + k.client).toList(), place);
    }

    int carriedIn(int story, int client) {
        if (world.find(story, client) == null) {
            return UNKNOWN;
        }
        World later = world.twin();
        int all = later.stories.get(story).corrections.size();
        for (int hours = 0; hours <= 100; hours++) {
            K copy = later.find(story, client);
            if (copy.state.equals("in use") && copy.version >= all) {
                return hours;
            }
            later.oneHour();
        }
        return NONE;
    }

    int wouldCome(int client, int hours) {
        if (!isIn(world.clients, client)) {
            return UNKNOWN;
        }
        if (out(hours, 1, 100)) {
            return BAD_VALUE;
        }
        World later = world.twin();
        for (int i = 0; i < hours; i++) {
            later.oneHour();
        }
        return later.clients.get(client).came.size() - world.clients.get(client).came.size();
    }

    int event(int back, int what) {
        if (back < 0 || out(what, 0, 3)) {
            return BAD_VALUE;
        }
        return back < world.log.size() ? world.log.get(back)[what] : NONE;
    }

    int count(int what) {
        List<String> states = List.of("planned", "in use", "withdrawn", "ended", "dropped");
        switch (what) {
            case 0: return world.hour;
            case 1: return world.clients.size();
            case 2: return world.stories.size();
            case 3: return world.copies.size();
            case 4: case 5: case 6: case 7: case 8:
                return (int) world.copies.stream().filter(k -> k.state.equals(states.get(what - 4))).count();
            case 9: return (int) world.copies.stream().filter(k -> copy(k.story, k.client, 5) > 0).count();
            case 10: return world.carried;
            case 11: return (int) world.stories.stream().flatMap(s -> s.persons.stream()).distinct().count();
            case 12: return world.days;
            case 13: return past.size();
            case 14: return text.length();
            default: return BAD_VALUE;
        }
    }
}
