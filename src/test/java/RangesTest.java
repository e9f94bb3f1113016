import java.util.function.IntUnaryOperator;
import java.util.function.Supplier;
import java.util.function.ToIntFunction;

/**
 * Each range of an argument: the values below its least and above its greatest one, both of these, those beside them,
 * and the least and the greatest int. A value that is refused leaves the desk as it was.
 */
public final class RangesTest {
    private static final int UNKNOWN = EmbargoDesk.UNKNOWN;
    private static final int BAD_VALUE = EmbargoDesk.BAD_VALUE;
    private static final int NONE = EmbargoDesk.NONE;
    private static final int MOST_CENTS = 2000000000;

    private static final Check CHECK = new Check("RangesTest");

    private interface Call {
        int answer(EmbargoDesk desk, int value);
    }

    public static void main(String[] args) throws IllegalAccessException {
        CHECK.allPromises(RangesTest.class);
    }

    // ---- the ways to ask

    /** Below the range one answer is due, above it another; the values that are no ints are left out. */
    private static void range(Supplier<EmbargoDesk> scene, Call call, int least, int most, int below, int above,
            IntUnaryOperator inside) {
        long[] tried = {Integer.MIN_VALUE, Integer.MIN_VALUE + 1, least - 65536L, least - 256L, least - 2L, least - 1L,
            least, least + 1L, most - 1L, most, most + 1L, most + 2L, most + 256L, most + 65536L, Integer.MAX_VALUE - 1,
            Integer.MAX_VALUE};
        int[] values = java.util.Arrays.stream(tried).filter(wide -> wide == (int) wide).mapToInt(wide -> (int) wide)
            .toArray();
        int[] refused = java.util.Arrays.stream(values).filter(value -> value < least || value > most).toArray();
        for (int value : values) {
            int due = value < least ? below : value > most ? above : inside.applyAsInt(value);
            CHECK.due("value " + value, call.answer(scene.get(), value), due);
        }
        String difference = Twins.difference(scene, () -> after(scene, call, refused));
        CHECK.holds("refused values change nothing " + difference, difference.isEmpty());
    }

    private static EmbargoDesk after(Supplier<EmbargoDesk> scene, Call call, int... values) {
        EmbargoDesk desk = scene.get();
        for (int value : values) {
            call.answer(desk, value);
        }
        return desk;
    }

    /** The value of an act: others are BAD_VALUE, and afterwards the desk tells it and has one state more to undo. */
    private static void valueOfAct(Supplier<EmbargoDesk> scene, Call call, int least, int most, IntUnaryOperator inside,
            ToIntFunction<EmbargoDesk> told) {
        range(scene, call, least, most, BAD_VALUE, BAD_VALUE, inside);
        int[] allowed = {least, least + 1, most - 1, most};
        for (int value : allowed) {
            EmbargoDesk desk = after(scene, call, value);
            CHECK.due("told of value " + value, told.applyAsInt(desk), value);
            CHECK.due("states after value " + value, desk.count(13), Math.min(4, scene.get().count(13) + 1));
        }
    }

    /** The number of a story, client or person: others are UNKNOWN. */
    private static void number(Supplier<EmbargoDesk> scene, Call call, int size, IntUnaryOperator inside) {
        range(scene, call, 0, size - 1, UNKNOWN, UNKNOWN, inside);
    }

    /** What is to be told: others are BAD_VALUE. */
    private static void what(Supplier<EmbargoDesk> scene, Call call, int... told) {
        range(scene, call, 0, told.length - 1, BAD_VALUE, BAD_VALUE, what -> told[what]);
        for (int what = 0; what < told.length; what++) {
            CHECK.due("what " + what, call.answer(scene.get(), what), told[what]);
        }
    }

    /** A place in a row: negative ones are BAD_VALUE, and behind the row there is NONE. */
    private static void place(Supplier<EmbargoDesk> scene, Call call, int... told) {
        range(scene, call, 0, told.length - 1, BAD_VALUE, NONE, place -> told[place]);
        for (int place = 0; place < told.length; place++) {
            CHECK.due("place " + place, call.answer(scene.get(), place), told[place]);
        }
    }

    // ---- scenes

    /** Three clients that owe 2000000000 each, with other sets of topics, and three stories that are in use. */
    private static EmbargoDesk three() {
        EmbargoDesk desk = new EmbargoDesk();
        for (int number = 0; number < 3; number++) {
            desk.addClient(128 >> number, number, 0, 1, MOST_CENTS);
            Desks.release(desk, (7 - number) + " " + number + " @" + number + " abc");
        }
        desk.pass(5);
        return desk;
    }

    private static EmbargoDesk threeHeld() {
        EmbargoDesk desk = new EmbargoDesk();
        for (int number = 0; number < 3; number++) {
            Desks.read(desk, "0 " + number + " @" + (500 + number) + " abc");
        }
        return desk;
    }

    private static EmbargoDesk threeReleased() {
        EmbargoDesk desk = threeHeld();
        for (int number = 0; number < 3; number++) {
            desk.release(number);
        }
        return desk;
    }

    // ---- clients

    static void promise02_topicsAre1To255() {
        valueOfAct(EmbargoDesk::new, (desk, value) -> desk.addClient(value, 0, 0, 1, 0), 1, 255, value -> 0,
            desk -> desk.client(0, 0));
    }

    static void promise02_delayIs0To48() {
        valueOfAct(EmbargoDesk::new, (desk, value) -> desk.addClient(1, value, 0, 1, 0), 0, 48, value -> 0,
            desk -> desk.client(0, 1));
    }

    static void promise02_lagIs0To24() {
        valueOfAct(EmbargoDesk::new, (desk, value) -> desk.addClient(1, 0, value, 1, 0), 0, 24, value -> 0,
            desk -> desk.client(0, 2));
    }

    static void promise02_limitIs1To9() {
        valueOfAct(EmbargoDesk::new, (desk, value) -> desk.addClient(1, 0, 0, value, 0), 1, 9, value -> 0,
            desk -> desk.client(0, 3));
    }

    static void promise02_feeIs0To2000000000() {
        valueOfAct(EmbargoDesk::new, (desk, value) -> desk.addClient(1, 0, 0, 1, value), 0, MOST_CENTS, value -> 0,
            desk -> desk.client(0, 4));
    }

    static void promise03_clientIsAClient() {
        number(RangesTest::three, (desk, client) -> desk.setTopics(client, 255), 3, client -> 128 >> client);
        number(Scenes::full, (desk, client) -> desk.setTopics(client, 1), 8, client -> 255);
    }

    static void promise03_topicsAre1To255() {
        valueOfAct(RangesTest::three, (desk, value) -> desk.setTopics(1, value), 1, 255, value -> 64,
            desk -> desk.client(1, 0));
    }

    static void promise04_clientIsAClient() {
        number(RangesTest::three, (desk, client) -> desk.setUp(client, false), 3, client -> 1);
        number(Scenes::full, (desk, client) -> desk.setUp(client, false), 8, client -> 20);
    }

    static void promise05_daysAre1To9() {
        valueOfAct(EmbargoDesk::new, (desk, value) -> desk.setUse(value), 1, 9, value -> 3, desk -> desk.count(12));
    }

    static void promise06_clientIsAClient() {
        number(RangesTest::three, (desk, client) -> desk.pay(client, 1), 3, client -> MOST_CENTS - 1);
        number(Scenes::full, (desk, client) -> desk.pay(client, 9), 8,
            client -> client == 0 ? EmbargoDesk.NOT_POSSIBLE : 9 * client - 9);
    }

    static void promise06_centsAre1To2000000000() {
        valueOfAct(RangesTest::three, (desk, value) -> desk.pay(2, value), 1, MOST_CENTS, value -> MOST_CENTS - value,
            desk -> MOST_CENTS - desk.client(2, 6));
    }

    // ---- stories

    static void promise08_storyIsAStory() {
        number(RangesTest::threeHeld, (desk, story) -> desk.release(story), 3, story -> 0);
        number(Scenes::full, (desk, story) -> desk.release(story), 20, story -> EmbargoDesk.NOT_POSSIBLE);
    }

    static void promise09_storyIsAStory() {
        number(RangesTest::threeReleased, (desk, story) -> desk.hold(story), 3, story -> 500 + story);
        number(Scenes::full, (desk, story) -> desk.hold(story), 20, story -> EmbargoDesk.NOT_POSSIBLE);
    }

    static void promise10_storyIsAStory() {
        number(RangesTest::threeHeld, (desk, story) -> desk.setEmbargo(story, 7), 3, story -> 500 + story);
        number(RangesTest::threeReleased, (desk, story) -> desk.setEmbargo(story, 7), 3, story -> 500 + story);
        number(Scenes::full, (desk, story) -> desk.setEmbargo(story, 7), 20, story -> EmbargoDesk.NOT_POSSIBLE);
    }

    static void promise10_hourIs0To999() {
        valueOfAct(RangesTest::threeHeld, (desk, hour) -> desk.setEmbargo(1, hour), 0, 999, hour -> 501,
            desk -> desk.story(1, 2));
        range(RangesTest::threeReleased, (desk, hour) -> desk.setEmbargo(1, hour), 0, 999, BAD_VALUE, BAD_VALUE,
            hour -> 501);
    }

    static void promise11_storyIsAStory() {
        number(RangesTest::three, (desk, story) -> desk.correct(story), 3, story -> 1);
        number(Scenes::full, (desk, story) -> desk.correct(story), 20, story -> story == 0 ? EmbargoDesk.FULL : 1);
    }

    static void promise12_storyIsAStory() {
        number(RangesTest::three, (desk, story) -> desk.kill(story), 3, story -> 1);
        number(Scenes::full, (desk, story) -> desk.kill(story), 20, story -> story < 9 ? 8 : 0);
    }

    static void promise13_hoursAre1To100() {
        range(EmbargoDesk::new, (desk, hours) -> desk.pass(hours), 1, 100, BAD_VALUE, BAD_VALUE, hours -> 0);
        valueOfAct(EmbargoDesk::new, (desk, hours) -> desk.pass(hours), 1, 100, hours -> 0, desk -> desk.count(0));
    }

    // ---- texts

    static void promise14_anyCharacterIsTyped() {
        int[] codes = {0, 1, 9, 10, 13, 31, 32, 127, 128, 255, 256, 55296, 57343, 65534, 65535};
        EmbargoDesk desk = new EmbargoDesk();
        for (int i = 0; i < codes.length; i++) {
            CHECK.due("type of code " + codes[i], desk.type((char) codes[i]), i + 1);
        }
        CHECK.due("length", desk.clearText(), codes.length);
    }

    // ---- what is told

    static void promise19_storyIsAStory() {
        number(RangesTest::three, (desk, story) -> desk.story(story, 0), 3, story -> 7 - story);
        number(Scenes::full, (desk, story) -> desk.story(story, 8), 20, story -> 8);
    }

    static void promise19_whatIs0To10() {
        what(RangesTest::three, (desk, what) -> desk.story(2, what), 5, 1, 2, 2, 0, 2, NONE, 3, 1, 1, 1);
        what(RangesTest::threeHeld, (desk, what) -> desk.story(2, what), 0, 1, 502, 0, 0, NONE, NONE, 3, 0, 0, 0);
    }

    static void promise20_storyIsAStory() {
        number(RangesTest::three, (desk, story) -> desk.byline(story, 0), 3, story -> story);
        number(Scenes::full, (desk, story) -> desk.byline(story, 2), 20, story -> 9);
    }

    static void promise20_placeIsFrom0() {
        place(Scenes::full, (desk, place) -> desk.byline(19, place), 7, 0, 9);
        place(RangesTest::three, (desk, place) -> desk.byline(2, place), 2);
        place(Scenes::busy, (desk, place) -> desk.byline(5, place), 6, 5);
    }

    static void promise21_storyIsAStory() {
        number(RangesTest::three, (desk, story) -> desk.slugChar(story, 2), 3, story -> 'c');
        number(Scenes::full, (desk, story) -> desk.slugChar(story, 11), 20, story -> 'l');
    }

    static void promise21_indexIsFrom0() {
        place(RangesTest::three, (desk, index) -> desk.slugChar(1, index), 'a', 'b', 'c');
        place(Scenes::full, (desk, index) -> desk.slugChar(19, index), "abcdefghijkl".chars().toArray());
        place(Scenes::shortestStory, (desk, index) -> desk.slugChar(0, index), 'z');
    }

    static void promise22_storyIsAStory() {
        number(RangesTest::three, (desk, story) -> desk.correction(story, 0), 3, story -> NONE);
        number(Scenes::full, (desk, story) -> desk.correction(story, 0), 20, story -> story == 0 ? 1 : NONE);
    }

    static void promise22_kIsFrom0() {
        place(Scenes::full, (desk, k) -> desk.correction(0, k), 1, 1, 1, 1, 1, 1);
        place(Scenes::busy, (desk, k) -> desk.correction(2, k), 30, 32, 32);
        range(Scenes::full, (desk, k) -> desk.correction(1, k), 0, 0, BAD_VALUE, NONE, k -> NONE);
    }

    static void promise23_clientIsAClient() {
        number(RangesTest::three, (desk, client) -> desk.client(client, 1), 3, client -> client);
        number(Scenes::full, (desk, client) -> desk.client(client, 4), 8, client -> client);
    }

    static void promise23_whatIs0To10() {
        what(RangesTest::three, (desk, what) -> desk.client(2, what), 32, 2, 0, 1, MOST_CENTS, 1, MOST_CENTS, 1, 1, 1,
            0);
        what(Scenes::busy, (desk, what) -> desk.client(0, what), 255, 0, 4, 2, 1000000001, 1, 1999999997, 2, 4, 1,
            2);
    }

    static void promise24_personIs0To9() {
        number(EmbargoDesk::new, (desk, person) -> desk.person(person, 0), 10, person -> 0);
        number(Scenes::full, (desk, person) -> desk.person(person, 2), 10,
            person -> person == 7 || person == 0 || person == 9 ? 20 : 0);
    }

    static void promise24_whatIs0To3() {
        what(EmbargoDesk::new, (desk, what) -> desk.person(9, what), 0, 0, 0, 0);
        // Person 3 has a third of the first fee, and half of a fee of 10 twice: 5 for story 3, 10 for story 2.
        what(Scenes::busy, (desk, what) -> desk.person(3, what), 333333333 + 3 + 5 + 10, 0, 3, 2);
    }

    static void promise25_storyIsAStory() {
        number(Scenes::full, (desk, story) -> desk.copy(story, 7, 1), 20, story -> 1);
        number(Scenes::busy, (desk, story) -> desk.copy(story, 0, 8), 4, story -> story == 2 ? 100 : NONE);
    }

    static void promise25_clientIsAClient() {
        number(Scenes::full, (desk, client) -> desk.copy(19, client, 1), 8, client -> 1);
        number(Scenes::busy, (desk, client) -> desk.copy(2, client, 1), 3,
            client -> client == 0 ? 28 : client == 1 ? 30 : 68);
    }

    static void promise25_whatIs0To8() {
        what(Scenes::busy, (desk, what) -> desk.copy(2, 0, what), 1, 28, 28, 0, 3, 0, 34, NONE, 100);
        what(Scenes::busy, (desk, what) -> desk.copy(2, 1, what), 1, 30, 30, 1, 2, 0, 33, NONE, 102);
        what(Scenes::busy, (desk, what) -> desk.copy(2, 2, what), 0, 68, NONE, NONE, 0, 0, NONE, NONE, NONE);
    }

    static void promise26_placeIsFrom0() {
        place(Scenes::full, (desk, place) -> desk.copyAt(place), placesOfAll());
        place(RangesTest::three, (desk, place) -> desk.copyAt(place), 0, 11, 22);
    }

    private static int[] placesOfAll() {
        int[] places = new int[160];
        for (int place = 0; place < places.length; place++) {
            places[place] = 10 * (place / 8) + place % 8;
        }
        return places;
    }

    static void promise27_storyIsAStory() {
        number(Scenes::full, (desk, story) -> desk.carriedIn(story, 7), 20,
            story -> story == 0 ? 24 : story < 9 ? 0 : story < 18 ? 23 : 47);
    }

    static void promise27_clientIsAClient() {
        number(Scenes::full, (desk, client) -> desk.carriedIn(9, client), 8, client -> 23);
        number(Scenes::busy, (desk, client) -> desk.carriedIn(2, client), 3,
            client -> client == 0 ? 4 : client == 1 ? NONE : 36);
    }

    static void promise28_clientIsAClient() {
        number(Scenes::full, (desk, client) -> desk.wouldCome(client, 23), 8, client -> 9);
    }

    static void promise28_hoursAre1To100() {
        range(() -> Scenes.oneClient(0, 0, 0), (desk, hours) -> desk.wouldCome(0, hours), 1, 100, BAD_VALUE, BAD_VALUE,
            hours -> 0);
        range(Scenes::full, (desk, hours) -> desk.wouldCome(7, hours), 1, 100, BAD_VALUE, BAD_VALUE,
            hours -> hours < 23 ? 0 : hours < 47 ? 9 : 11);
    }

    static void promise29_backIsFrom0() {
        place(Scenes::full, (desk, back) -> desk.event(back, 0), 5, 5, 5, 5, 5, 5, 1, 1, 1, 1, 1, 1);
        place(Scenes::oneKill, (desk, back) -> desk.event(back, 0), 6);
    }

    static void promise29_whatIs0To3() {
        what(Scenes::busy, (desk, what) -> desk.event(0, what), 5, 2, NONE, 32);
        what(Scenes::oneKill, (desk, what) -> desk.event(0, what), 6, 0, NONE, 7);
        range(EmbargoDesk::new, (desk, what) -> desk.event(0, what), 0, 3, BAD_VALUE, BAD_VALUE, what -> NONE);
    }

    static void promise30_whatIs0To14() {
        what(EmbargoDesk::new, (desk, what) -> desk.count(what), 0, 0, 0, 0, 0, 0, 0, 0, 0, 0, 0, 0, 3, 0, 0);
        what(Scenes::busy, (desk, what) -> desk.count(what), 32, 3, 6, 10, 1, 2, 2, 4, 1, 0, 1, 6, 3, 4, 10);
        what(Scenes::fullText, (desk, what) -> desk.count(what), 0, 0, 0, 0, 0, 0, 0, 0, 0, 0, 0, 0, 3, 0, 40);
    }
}
