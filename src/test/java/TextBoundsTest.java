/** Promise 7: each boundary of a text, its first and last allowed characters, its lengths, and where its fault lies. */
public final class TextBoundsTest {
    private static final String LONGEST = "7 9,8,7 @999 abcdefghijkl";

    private static final Check CHECK = new Check("TextBoundsTest");

    public static void main(String[] args) throws IllegalAccessException {
        CHECK.allPromises(TextBoundsTest.class);
    }

    private static void fault(String text, int index) {
        EmbargoDesk desk = new EmbargoDesk();
        CHECK.due("readStory of \"" + text + "\"", Desks.read(desk, text), -100 - index);
        CHECK.due("stories after \"" + text + "\"", desk.count(2), 0);
        CHECK.due("states after \"" + text + "\"", desk.count(13), 0);
        CHECK.due("the text stays, \"" + text + "\"", desk.count(14), text.length());
    }

    private static EmbargoDesk good(String text) {
        EmbargoDesk desk = new EmbargoDesk();
        CHECK.due("readStory of \"" + text + "\"", Desks.read(desk, text), 0);
        CHECK.due("the text stays, \"" + text + "\"", desk.count(14), text.length());
        return desk;
    }

    /** Only the characters from the first to the last one are allowed between the two parts of a story's text. */
    private static void onlyAllowed(String before, char first, char last, String behind) {
        onlyAllowed(before, first, last, behind, false);
    }

    /** Where a part may end, a blank is allowed, too: then it is the next character that is not. */
    private static void onlyAllowed(String before, char first, char last, String behind, boolean orBlank) {
        for (char sign = 0; sign < 700; sign++) {
            String text = before + sign + behind;
            if (sign >= first && sign <= last) {
                good(text);
            } else {
                fault(text, before.length() + (orBlank && sign == ' ' ? 1 : 0));
            }
        }
        char[] far = {(char) 0x663, (char) 0x2028, (char) 0x3000, (char) 0xd800, (char) 0xff10, (char) 0xff41, (char) 0xffff};
        for (char sign : far) {
            fault(before + sign + behind, before.length());
        }
    }

    static void promise07_topicIs0To7() {
        onlyAllowed("", '0', '7', " 1 @5 a");
    }

    static void promise07_blankBehindTheTopic() {
        onlyAllowed("0", ' ', ' ', "1 @5 a");
    }

    static void promise07_firstPersonIs0To9() {
        onlyAllowed("0 ", '0', '9', " @5 a");
    }

    static void promise07_secondPersonIs0To9ButNotTheFirst() {
        onlyAllowed("0 9,", '0', '8', " @5 a");
        onlyAllowed("0 0,", '1', '9', " @5 a");
    }

    static void promise07_thirdPersonIs0To9ButNotTheOthers() {
        onlyAllowed("0 9,8,", '0', '7', " @5 a");
        onlyAllowed("0 0,1,", '2', '9', " @5 a");
        onlyAllowed("0 0,9,", '1', '8', " @5 a");
        onlyAllowed("0 9,0,", '1', '8', " @5 a");
    }

    static void promise07_commaBetweenTwoPersons() {
        onlyAllowed("0 1", ',', ',', "2 @5 a", true);
        onlyAllowed("0 1,2", ',', ',', "3 @5 a", true);
    }

    static void promise07_atMost3Persons() {
        good("0 1 @5 a");
        good("0 1,2 @5 a");
        good("0 1,2,3 @5 a");
        fault("0 1,2,3,4 @5 a", 7);
        fault("0 1,2,3,1 @5 a", 7);
        fault("0 1,2,3,", 7);
    }

    static void promise07_blankBehindTheByline() {
        onlyAllowed("0 1,2,3", ' ', ' ', "@5 a");
        fault("0 1@5 a", 3);
        fault("0 1,2@5 a", 5);
    }

    static void promise07_atSignBeforeTheEmbargo() {
        onlyAllowed("0 1 ", '@', '@', "5 a");
        onlyAllowed("0 1,2,3 ", '@', '@', "5 a");
    }

    static void promise07_embargoOf1To3Digits() {
        onlyAllowed("0 1 @", '0', '9', " a");
        onlyAllowed("0 1 @1", '0', '9', "0 a", true);
        onlyAllowed("0 1 @10", '0', '9', " a", true);
        int[] embargoes = {0, 1, 9, 10, 11, 99, 100, 101, 109, 110, 998, 999};
        for (int embargo : embargoes) {
            CHECK.due("embargo", good("0 1 @" + embargo + " a").story(0, 2), embargo);
        }
        fault("0 1 @1000 a", 8);
        fault("0 1 @9999 a", 8);
        fault("0 1 @ a", 5);
    }

    static void promise07_noZerosInFront() {
        good("0 1 @0 a");
        fault("0 1 @00 a", 6);
        fault("0 1 @01 a", 6);
        fault("0 1 @09 a", 6);
        fault("0 1 @000 a", 6);
        fault("0 1 @010 a", 6);
        fault("0 1 @0999 a", 6);
    }

    static void promise07_blankBehindTheEmbargo() {
        onlyAllowed("0 1 @0", ' ', ' ', "a");
        onlyAllowed("0 1 @999", ' ', ' ', "a");
    }

    static void promise07_slugOfSmallLetters() {
        onlyAllowed("0 1 @5 ", 'a', 'z', "");
        onlyAllowed("0 1 @5 ", 'a', 'z', "bc");
        onlyAllowed("0 1 @5 bcdefghijkl", 'a', 'z', "");
    }

    static void promise07_slugOf1To12Letters() {
        fault("0 1 @5 ", 7);
        CHECK.due("letters", good("0 1 @5 z").story(0, 7), 1);
        CHECK.due("letters", good("0 1 @5 abcdefghijk").story(0, 7), 11);
        CHECK.due("letters", good("0 1 @5 abcdefghijkl").story(0, 7), 12);
        fault("0 1 @5 abcdefghijklm", 19);
        fault("0 1 @5 abcdefghijklmn", 19);
        fault("0 1 @5 abcdefghijkl ", 19);
        fault("0 1 @5 abcdefghijkl1", 19);
    }

    static void promise07_nothingBehindTheSlug() {
        fault("0 1 @5 a ", 8);
        fault("0 1 @5 a b", 8);
        fault("0 1 @5 a,", 8);
        fault("0 1 @5 aA", 8);
    }

    static void promise07_theLengthIfItEndsTooEarly() {
        for (int length = 0; length < 14; length++) {
            fault(LONGEST.substring(0, length), length);
        }
        good(LONGEST.substring(0, 14));
        good(LONGEST);
        String shortest = "0 1 @0 a";
        for (int length = 0; length < 8; length++) {
            fault(shortest.substring(0, length), length);
        }
        good(shortest);
    }

    static void promise07_theFirstOfSeveralFaults() {
        fault("8 1,1 @00 A", 0);
        fault("0 1,1 @00 A", 4);
        fault("0 1,2 @00 A", 8);
        fault("0 1,2 @0 A", 9);
        fault("        ", 0);
        fault("0       ", 2);
    }

    static void promise07_faultsOfTextsOf40Characters() {
        String forty = LONGEST + "mnopqrstuvwxyza";
        CHECK.due("length", forty.length(), 40);
        fault(forty, 25);
        fault("8".repeat(40), 0);
        fault("0".repeat(40), 1);
    }

    static void promise07_theGreatestStory() {
        EmbargoDesk desk = good(LONGEST);
        int[] told = {7, 3, 999, 0, 0, EmbargoDesk.NONE, EmbargoDesk.NONE, 12, 0, 0, 0};
        for (int what = 0; what < told.length; what++) {
            CHECK.due("story(0, " + what + ")", desk.story(0, what), told[what]);
        }
        for (int place = 0; place < 3; place++) {
            CHECK.due("byline(0, " + place + ")", desk.byline(0, place), 9 - place);
        }
        for (int index = 0; index < 12; index++) {
            CHECK.due("slugChar(0, " + index + ")", desk.slugChar(0, index), 'a' + index);
        }
    }

    static void promise07_aShorterStoryBehindALongerOne() {
        EmbargoDesk desk = good(LONGEST);
        CHECK.due("the shorter one", Desks.read(desk, "0 1 @0 z"), 1);
        int[] told = {0, 1, 0, 0, 0, EmbargoDesk.NONE, EmbargoDesk.NONE, 1, 0, 0, 0};
        for (int what = 0; what < told.length; what++) {
            CHECK.due("story(1, " + what + ")", desk.story(1, what), told[what]);
        }
        CHECK.due("its second person", desk.byline(1, 1), EmbargoDesk.NONE);
        CHECK.due("its second letter", desk.slugChar(1, 1), EmbargoDesk.NONE);
        CHECK.due("the longer one's third person", desk.byline(0, 2), 7);
        CHECK.due("the longer one's twelfth letter", desk.slugChar(0, 11), 'l');
    }

    static void promise07_aTextThatIsCompletedLater() {
        EmbargoDesk desk = new EmbargoDesk();
        for (int length = 1; length <= LONGEST.length(); length++) {
            CHECK.due("type", desk.type(LONGEST.charAt(length - 1)), length);
            CHECK.due("after " + length, desk.readStory(), length < 14 ? -100 - length : length - 14);
        }
        CHECK.due("stories", desk.count(2), 12);
        for (int story = 0; story < 12; story++) {
            CHECK.due("letters of story " + story, desk.story(story, 7), story + 1);
        }
    }
}
