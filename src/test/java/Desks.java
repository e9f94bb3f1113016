/** Short ways to bring a desk where a test wants it. */
final class Desks {
    private Desks() {
    }

    static void type(EmbargoDesk desk, String text) {
        desk.clearText();
        for (int i = 0; i < text.length(); i++) {
            desk.type(text.charAt(i));
        }
    }

    static int read(EmbargoDesk desk, String text) {
        type(desk, text);
        return desk.readStory();
    }

    /** Reads and releases a story and returns its number; its embargo must lie in the text. */
    static int release(EmbargoDesk desk, String text) {
        int story = read(desk, text);
        desk.release(story);
        return story;
    }

    /** A desk with one client of all topics, without delay, and one story of topic 0 in use by it since hour 1. */
    static EmbargoDesk withCopyInUse(int lag, int fee) {
        EmbargoDesk desk = new EmbargoDesk();
        desk.addClient(255, 0, lag, 9, fee);
        release(desk, "0 1 @0 news");
        desk.pass(1);
        return desk;
    }

    /** All that the desk tells at the moment, but for the history and the text, in one text. */
    static String tellAll(EmbargoDesk desk) {
        StringBuilder told = new StringBuilder();
        for (int what = 0; what <= 12; what++) {
            told.append(desk.count(what)).append(' ');
        }
        for (int story = 0; story < desk.count(2); story++) {
            tellStory(desk, story, told.append("| story "));
        }
        for (int client = 0; client < desk.count(1); client++) {
            told.append("| client ");
            for (int what = 0; what <= 10; what++) {
                told.append(desk.client(client, what)).append(' ');
            }
        }
        for (int person = 0; person < 10; person++) {
            told.append("| person ");
            for (int what = 0; what <= 3; what++) {
                told.append(desk.person(person, what)).append(' ');
            }
        }
        for (int place = 0; place < desk.count(3); place++) {
            told.append("| copy ").append(desk.copyAt(place)).append(": ");
            for (int what = 0; what <= 8; what++) {
                told.append(desk.copy(desk.copyAt(place) / 10, desk.copyAt(place) % 10, what)).append(' ');
            }
        }
        for (int back = 0; back < 12; back++) {
            told.append("| event ");
            for (int what = 0; what <= 3; what++) {
                told.append(desk.event(back, what)).append(' ');
            }
        }
        return told.toString();
    }

    private static void tellStory(EmbargoDesk desk, int story, StringBuilder told) {
        for (int what = 0; what <= 10; what++) {
            told.append(desk.story(story, what)).append(' ');
        }
        for (int place = 0; place < 3; place++) {
            told.append(desk.byline(story, place)).append(' ');
        }
        for (int index = 0; index < 12; index++) {
            told.append(desk.slugChar(story, index)).append(' ');
        }
        for (int k = 0; k < 6; k++) {
            told.append(desk.correction(story, k)).append(' ');
        }
    }
}
