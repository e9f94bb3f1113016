/** Promises 14 and 15 (type, clearText), and the faults of texts that promise 7 (readStory) tells. */
public final class TextsTest {
    private static final Check CHECK = new Check("TextsTest");

    public static void main(String[] args) {
        typeCounts();
        clearTextEmpties();
        textsAreNoActs();
        faults();
        storiesOfGoodTexts();
        everyCharacterAtEveryPlace();
        CHECK.end();
    }

    private static void typeCounts() {
        EmbargoDesk desk = new EmbargoDesk();
        char[] signs = {'a', ' ', (char) 0, (char) 255, (char) 256, (char) 65535};
        for (int i = 0; i < 40; i++) {
            CHECK.due("type " + i, desk.type(signs[i % signs.length]), i + 1);
        }
        CHECK.due("a forty-first", desk.type('a'), EmbargoDesk.FULL);
        CHECK.due("length", desk.count(14), 40);
        CHECK.due("clearText", desk.clearText(), 40);
        CHECK.due("type then", desk.type('a'), 1);
    }

    private static void clearTextEmpties() {
        EmbargoDesk desk = new EmbargoDesk();
        CHECK.due("of an empty text", desk.clearText(), 0);
        Desks.type(desk, "0 1 @0 a");
        CHECK.due("of a text", desk.clearText(), 8);
        CHECK.due("length", desk.count(14), 0);
        CHECK.due("nothing is left of it", desk.readStory(), -100);
        desk.type('0');
        CHECK.due("nor behind new characters", desk.readStory(), -101);
    }

    private static void textsAreNoActs() {
        EmbargoDesk desk = new EmbargoDesk();
        desk.keep();
        Desks.type(desk, "0 1 @0 a");
        CHECK.due("history", desk.count(13), 0);
        desk.readStory();
        desk.type('b');
        desk.undo();
        CHECK.due("undo leaves the text", desk.count(14), 9);
        desk.restore();
        CHECK.due("restore leaves the text", desk.count(14), 9);
        CHECK.due("readStory", desk.readStory(), 0);
        CHECK.due("letters", desk.story(0, 7), 2);
    }

    private static void faults() {
        Object[][] rows = {
            {"", 0}, {"8", 0}, {"x 1 @5 a", 0}, {" 1 @5 a", 0}, {"-1 1 @5 a", 0}, {"9 1 @5 a", 0},
            {"0", 1}, {"01 1 @5 a", 1}, {"0,1 @5 a", 1},
            {"0 ", 2}, {"0 a @5 a", 2}, {"0  1 @5 a", 2}, {"0 ,1 @5 a", 2}, {"0 @5 a", 2},
            {"0 1", 3}, {"0 12 @5 a", 3}, {"0 1@5 a", 3}, {"0 1;2 @5 a", 3},
            {"0 1,", 4}, {"0 1, @5 a", 4}, {"0 1,1 @5 a", 4}, {"0 1,a @5 a", 4}, {"0 1,,2 @5 a", 4},
            {"0 1,2", 5}, {"0 1,23 @5 a", 5}, {"0 1,2,", 6}, {"0 1,2,1 @5 a", 6}, {"0 1,2,2 @5 a", 6},
            {"0 1,2,3", 7}, {"0 1,2,3,4 @5 a", 7}, {"0 1,2,3, @5 a", 7},
            {"0 1 ", 4}, {"0 1 5 a", 4}, {"0 1  @5 a", 4}, {"0 1,2,3 5", 8},
            {"0 1 @", 5}, {"0 1 @ a", 5}, {"0 1 @a a", 5}, {"0 1 @-1 a", 5}, {"0 1 @@5 a", 5},
            {"0 1 @5", 6}, {"0 1 @0", 6}, {"0 1 @00 a", 6}, {"0 1 @05 a", 6}, {"0 1 @5a", 6}, {"0 1 @5, a", 6},
            {"0 1 @50", 7}, {"0 1 @50a", 7}, {"0 1 @500", 8}, {"0 1 @500a", 8}, {"0 1 @1000 a", 8},
            {"0 1 @5 ", 7}, {"0 1 @5  a", 7}, {"0 1 @5 A", 7}, {"0 1 @5 1", 7}, {"0 1 @500 ", 9},
            {"0 1 @5 a ", 8}, {"0 1 @5 aB", 8}, {"0 1 @5 a1", 8}, {"0 1 @5 a{", 8}, {"0 1 @5 `", 7},
            {"0 1 @5 abcdefghijklm", 19}, {"0 1 @5 abcdefghijkl ", 19}, {"0 1 @5 abcdefghijklmnopqrs", 19},
            {"7 9,8,7 @999 abcdefghijkl.", 25},
            {"0 1 @5 a" + (char) 233, 8}, {"0 1 @" + (char) 0x663 + " a", 5}, {(char) 0xff10 + " 1 @5 a", 0},
        };
        for (Object[] row : rows) {
            EmbargoDesk desk = new EmbargoDesk();
            CHECK.due("readStory of \"" + row[0] + "\"", Desks.read(desk, (String) row[0]), -100 - (Integer) row[1]);
            CHECK.due("stories", desk.count(2), 0);
            CHECK.due("history", desk.count(13), 0);
            CHECK.due("the text stays", desk.count(14), ((String) row[0]).length());
        }
    }

    private static void storiesOfGoodTexts() {
        // The text, then topic, persons, embargo and letters.
        Object[][] rows = {
            {"0 0 @0 a", 0, 1, 0, 1}, {"7 9,8,7 @999 abcdefghijkl", 7, 3, 999, 12}, {"3 4,0 @10 zz", 3, 2, 10, 2},
            {"1 5 @100 news", 1, 1, 100, 4}, {"6 6 @9 a", 6, 1, 9, 1}, {"2 2,1 @90 za", 2, 2, 90, 2},
        };
        for (Object[] row : rows) {
            EmbargoDesk desk = new EmbargoDesk();
            String text = (String) row[0];
            CHECK.due("readStory of \"" + text + "\"", Desks.read(desk, text), 0);
            CHECK.due("topic of " + text, desk.story(0, 0), (Integer) row[1]);
            CHECK.due("persons of " + text, desk.story(0, 1), (Integer) row[2]);
            CHECK.due("embargo of " + text, desk.story(0, 2), (Integer) row[3]);
            int letters = (Integer) row[4];
            CHECK.due("letters of " + text, desk.story(0, 7), letters);
            for (int index = 0; index < letters; index++) {
                CHECK.due("letter of " + text, desk.slugChar(0, index), text.charAt(text.length() - letters + index));
            }
            for (int place = 0; place < (Integer) row[2]; place++) {
                CHECK.due("person of " + text, desk.byline(0, place), text.charAt(2 + 2 * place) - '0');
            }
        }
    }

    /** Puts every sign at every place of a text and asks a plain reading of the rule for the fault. */
    private static void everyCharacterAtEveryPlace() {
        String[] texts = {"0 1 @5 a", "7 9,8,7 @999 abcdefghijkl", "3 4,0 @10 zz", "1 5 @0 abcdefghijklm"};
        for (String text : texts) {
            for (int place = 0; place < text.length(); place++) {
                EmbargoDesk desk = new EmbargoDesk();
                for (char sign = 0; sign < 300; sign++) {
                    String changed = text.substring(0, place) + sign + text.substring(place + 1);
                    int fault = faultByPattern(changed);
                    if (fault >= 0) {
                        CHECK.due("readStory of \"" + changed + "\"", Desks.read(desk, changed), -100 - fault);
                    } else {
                        EmbargoDesk fresh = new EmbargoDesk();
                        CHECK.due("readStory of \"" + changed + "\"", Desks.read(fresh, changed), 0);
                    }
                }
            }
        }
    }

    private static final java.util.regex.Pattern STORY =
        java.util.regex.Pattern.compile("[0-7] ([0-9])(,(?!\\1)([0-9])(,(?!\\1|\\3)[0-9])?)? @(0|[1-9][0-9]?[0-9]?) [a-z]{1,12}");

    /** The fault is where the longest beginning that can be completed to a story ends; -1 is none. */
    private static int faultByPattern(String text) {
        if (STORY.matcher(text).matches()) {
            return -1;
        }
        for (int end = text.length(); end > 0; end--) {
            java.util.regex.Matcher matcher = STORY.matcher(text.substring(0, end));
            // A beginning that matches, or that only lacks more characters, is allowed up to its end.
            if (matcher.matches() || matcher.hitEnd()) {
                return end;
            }
        }
        return 0;
    }
}
