/** All promises: long runs of calls, the same in each run of the test, whose answers the model must give, too. */
public final class ModelRunsTest {
    private static final int RUNS = 600;
    private static final int CALLS = 512;

    private static final Check CHECK = new Check("ModelRunsTest");

    private final EmbargoDesk desk = new EmbargoDesk();
    private final DeskModel model = new DeskModel();
    private final int run;
    /** How long the hours of this run are, and how high its fees: runs of all sorts are wanted. */
    private final int pace;
    private final int feeKind;
    private long seed;
    private int calls;

    private ModelRunsTest(int run) {
        this.run = run;
        this.pace = run % 4;
        this.feeKind = run / 4 % 4;
        this.seed = 77003L * (run + 1);
    }

    public static void main(String[] args) {
        for (int run = 0; run < RUNS; run++) {
            new ModelRunsTest(run).go();
        }
        CHECK.end();
    }

    private int below(int bound) {
        seed = seed * 6364136223846793005L + 1442695040888963407L;
        return (int) ((seed >>> 33) % bound);
    }

    /** One of a few values, of which the last ones stand for wrong inputs and are taken seldom. */
    private int edge(int usual, int... edges) {
        return below(12) == 0 ? edges[below(edges.length)] : usual;
    }

    private int someStory() {
        return edge(below(Math.max(1, model.count(2))), -1, 19, 20, Integer.MAX_VALUE, Integer.MIN_VALUE);
    }

    private int someClient() {
        return edge(below(Math.max(1, model.count(1))), -1, 7, 8, Integer.MAX_VALUE, Integer.MIN_VALUE);
    }

    private int someHours() {
        int[] most = {3, 10, 30, 100};
        return edge(1 + below(most[pace]), 0, -1, 100, 101, Integer.MIN_VALUE, Integer.MAX_VALUE);
    }

    private int someFee() {
        int[] most = {4, 1000, 715827884, 2000000000};
        return edge(below(most[feeKind]) + (feeKind == 3 ? 1 : 0), 0, 2000000000, 2000000001, -1);
    }

    /** Often as much as lets the next copy of the client just be billed, or just not. */
    private int someCents(int client) {
        int owed = Math.max(0, model.client(client, 6));
        if (below(2) == 0) {
            return owed - (Integer.MAX_VALUE - Math.max(0, model.client(client, 4))) + below(3) - 1;
        }
        return edge(1 + below(1 + owed / 2), owed, owed + 1, 0, -1, 2000000000, 2000000001);
    }

    private int someTopics() {
        return edge(below(3) == 0 ? 255 : 1 + below(255), 0, 256, 255, 1, -1);
    }

    private void due(String call, int got, int want) {
        calls++;
        CHECK.due("run " + run + ", call " + calls + ": " + call, got, want);
    }

    private void go() {
        for (int i = 0; i <= below(4); i++) {
            addClient();
        }
        while (calls < CALLS) {
            next();
        }
        tellAll();
    }

    private void next() {
        switch (below(24)) {
            case 0: addClient(); break;
            case 1: story(); break;
            case 2: story(); break;
            case 3: { int c = someClient(), t = someTopics(); due("setTopics", desk.setTopics(c, t), model.setTopics(c, t)); break; }
            case 4: { int c = someClient(); boolean up = below(3) > 0; due("setUp", desk.setUp(c, up), model.setUp(c, up)); break; }
            case 5: { int d = edge(1 + below(9), 0, 10, -7); due("setUse", desk.setUse(d), model.setUse(d)); break; }
            case 6: { int c = someClient(), p = someCents(c); due("pay " + p, desk.pay(c, p), model.pay(c, p)); break; }
            case 7: case 8: case 9: { int s = someStory(); due("release " + s, desk.release(s), model.release(s)); break; }
            case 10: { int s = someStory(); due("hold " + s, desk.hold(s), model.hold(s)); break; }
            case 11: { int s = someStory(), h = edge(below(model.count(0) + 20), -1, 0, 999, 1000); due("setEmbargo", desk.setEmbargo(s, h), model.setEmbargo(s, h)); break; }
            case 12: case 13: { int s = someStory(); due("correct " + s, desk.correct(s), model.correct(s)); break; }
            case 14: { int s = someStory(); if (below(3) == 0) { due("kill " + s, desk.kill(s), model.kill(s)); } break; }
            case 15: case 16: case 17: case 18: { int h = someHours(); due("pass " + h, desk.pass(h), model.pass(h)); break; }
            case 19: history(); break;
            case 20: { int s = someStory(), c = someClient(); due("carriedIn", desk.carriedIn(s, c), model.carriedIn(s, c)); break; }
            case 21: { int c = someClient(), h = someHours(); due("wouldCome", desk.wouldCome(c, h), model.wouldCome(c, h)); break; }
            default: ask(); ask(); ask(); break;
        }
    }

    private void addClient() {
        int topics = someTopics();
        int delay = edge(below(2) == 0 ? below(5) : below(49), 0, 48, 49, -1);
        int lag = edge(below(25), 0, 24, 25, -1);
        int limit = edge(1 + below(9), 1, 9, 0, 10);
        int fee = someFee();
        due("addClient", desk.addClient(topics, delay, lag, limit, fee), model.addClient(topics, delay, lag, limit, fee));
    }

    private void story() {
        if (below(3) != 0) {
            StringBuilder text = new StringBuilder().append(below(8)).append(' ').append(below(10));
            for (int more = below(3); more > 0; more--) {
                text.append(',').append(below(10));
            }
            text.append(" @").append(below(Math.min(999, model.count(0) + 20))).append(' ');
            for (int letters = below(4); letters >= 0; letters--) {
                text.append((char) ('a' + below(26)));
            }
            if (below(5) == 0) {
                text.insert(below(text.length() + 1), (char) (below(2) == 0 ? 32 + below(96) : below(65536)));
            }
            due("clearText", desk.clearText(), model.clearText());
            for (int i = 0; i < text.length(); i++) {
                due("type", desk.type(text.charAt(i)), model.type(text.charAt(i)));
            }
        }
        due("readStory", desk.readStory(), model.readStory());
    }

    private void history() {
        switch (below(8)) {
            case 0: due("keep", desk.keep(), model.keep()); break;
            case 1: due("restore", desk.restore(), model.restore()); break;
            default: due("undo", desk.undo(), model.undo()); break;
        }
    }

    private void ask() {
        int s = someStory();
        int c = someClient();
        int n = edge(below(14), -1, Integer.MIN_VALUE, Integer.MAX_VALUE);
        int w = edge(below(11), -1, 15, Integer.MIN_VALUE, Integer.MAX_VALUE);
        switch (below(10)) {
            case 0: due("story " + w, desk.story(s, w), model.story(s, w)); break;
            case 1: due("byline", desk.byline(s, n), model.byline(s, n)); break;
            case 2: due("slugChar", desk.slugChar(s, n), model.slugChar(s, n)); break;
            case 3: due("correction", desk.correction(s, n), model.correction(s, n)); break;
            case 4: due("client " + w, desk.client(c, w), model.client(c, w)); break;
            case 5: due("person", desk.person(n, w % 5), model.person(n, w % 5)); break;
            case 6: due("copy " + w, desk.copy(s, c, w), model.copy(s, c, w)); break;
            case 7: due("copyAt", desk.copyAt(n), model.copyAt(n)); break;
            case 8: due("event", desk.event(n, w % 5), model.event(n, w % 5)); break;
            default: due("count " + n, desk.count(n), model.count(n)); break;
        }
    }

    private void tellAll() {
        for (int what = -1; what <= 15; what++) {
            due("count " + what, desk.count(what), model.count(what));
            for (int number = -1; number <= 20; number++) {
                due("story " + what, desk.story(number, what), model.story(number, what));
                due("byline", desk.byline(number, what), model.byline(number, what));
                due("slugChar", desk.slugChar(number, what), model.slugChar(number, what));
                due("correction", desk.correction(number, what), model.correction(number, what));
                due("client " + what, desk.client(number, what), model.client(number, what));
                due("person " + what, desk.person(number, what), model.person(number, what));
                due("event " + what, desk.event(number, what), model.event(number, what));
            }
        }
        for (int place = -1; place <= model.count(3); place++) {
            due("copyAt", desk.copyAt(place), model.copyAt(place));
        }
        for (int story = 0; story < model.count(2); story++) {
            for (int client = 0; client < model.count(1); client++) {
                for (int what = -1; what <= 9; what++) {
                    due("copy " + what, desk.copy(story, client, what), model.copy(story, client, what));
                }
                due("carriedIn", desk.carriedIn(story, client), model.carriedIn(story, client));
            }
        }
    }
}
