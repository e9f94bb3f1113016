/** Desks that the tests of boundaries begin with, each made by fewer than 250 calls. */
final class Scenes {
    private Scenes() {
    }

    static void type(EmbargoDesk desk, String text) {
        for (int i = 0; i < text.length(); i++) {
            desk.type(text.charAt(i));
        }
    }

    static void passTo(EmbargoDesk desk, int hour) {
        for (int now = desk.count(0); now < hour; now = Math.min(hour, now + 100)) {
            desk.pass(Math.min(100, hour - now));
        }
    }

    /** A desk with one client of all topics with this delay, lag and fee, who gets up to 9 copies a day. */
    static EmbargoDesk oneClient(int delay, int lag, int fee) {
        EmbargoDesk desk = new EmbargoDesk();
        desk.addClient(255, delay, lag, 9, fee);
        return desk;
    }

    /** Stories, clients and copies in all their states, a snapshot, a full history and log, and a story in the text. */
    static EmbargoDesk busy() {
        EmbargoDesk desk = new EmbargoDesk();
        desk.addClient(255, 0, 4, 2, 1000000001);
        desk.addClient(3, 2, 1, 9, 10);
        desk.addClient(1, 40, 2, 9, 7);
        desk.setUse(1);
        Desks.release(desk, "0 1,2,3 @0 old");
        Desks.release(desk, "1 2 @1 bc");
        desk.pass(1);
        desk.pass(26);
        desk.keep();
        desk.setUse(3);
        Desks.release(desk, "0 3 @0 new");
        Desks.release(desk, "1 3,4 @0 kil");
        Desks.read(desk, "2 5 @500 held");
        Desks.release(desk, "2 6,5 @999 rel");
        desk.pass(3);
        desk.correct(2);
        desk.kill(3);
        desk.pass(1);
        desk.kill(0);
        desk.pass(1);
        Desks.type(desk, "3 4 @77 zz");
        desk.setUp(1, false);
        desk.correct(2);
        desk.correct(2);
        desk.pay(0, 5);
        return desk;
    }

    /** As much as there is room for: 8 clients, 20 stories, 160 copies, and 6 corrections of story 0. */
    static EmbargoDesk full() {
        EmbargoDesk desk = new EmbargoDesk();
        for (int client = 0; client < 8; client++) {
            desk.addClient(255, 0, 24, 9, client);
        }
        Desks.type(desk, "0 7,0,9 @0 abcdefghijkl");
        for (int story = 0; story < 20; story++) {
            desk.readStory();
            desk.release(story);
        }
        desk.pass(1);
        for (int k = 0; k < 6; k++) {
            desk.correct(0);
        }
        return desk;
    }

    /** The text has its 40 characters, and no story stands in them. */
    static EmbargoDesk fullText() {
        EmbargoDesk desk = new EmbargoDesk();
        Desks.type(desk, "0 1 @0 abcdefghijkl");
        Scenes.type(desk, "mnopqrstuvwxyzabcdefg");
        return desk;
    }

    /** The last hour but 50, with a story that waits for its release and a copy that is in use. */
    static EmbargoDesk late() {
        EmbargoDesk desk = oneClient(0, 3, 5);
        desk.setUse(9);
        Scenes.passTo(desk, 9900);
        Desks.release(desk, "0 1 @0 now");
        Desks.read(desk, "0 2 @999 later");
        desk.pass(49);
        return desk;
    }

    /** One story as short as can be. */
    static EmbargoDesk shortestStory() {
        EmbargoDesk desk = new EmbargoDesk();
        Desks.read(desk, "0 1 @0 z");
        return desk;
    }

    /** One event alone: a story that is held is killed at hour 7. */
    static EmbargoDesk oneKill() {
        EmbargoDesk desk = shortestStory();
        desk.pass(7);
        desk.kill(0);
        return desk;
    }
}
