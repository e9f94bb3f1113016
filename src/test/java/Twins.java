import java.util.ArrayList;
import java.util.List;
import java.util.function.Consumer;
import java.util.function.Supplier;
import java.util.function.ToIntFunction;

/**
 * Finds out whether two ways to make a desk lead to the same one: they are asked all that can be told, now and after
 * undos, a restore, the reading of the text and more hours. What is answered behind the 512th call of an object is
 * free, so that the questions are dealt out to many desks, each made anew.
 */
final class Twins {
    private static final int QUESTIONS_OF_ONE_DESK = 250;

    private Twins() {
    }

    /** Returns what differs, or an empty text. */
    static String difference(Supplier<EmbargoDesk> one, Supplier<EmbargoDesk> other) {
        return difference(one, other, LATERS);
    }

    /** The same, but with other calls between the making of the desks and the questions. */
    static String difference(Supplier<EmbargoDesk> one, Supplier<EmbargoDesk> other,
            List<Consumer<EmbargoDesk>> laters) {
        for (Consumer<EmbargoDesk> later : laters) {
            List<ToIntFunction<EmbargoDesk>> questions = questions(size(one, later), size(other, later));
            for (int first = 0; first < questions.size(); first += QUESTIONS_OF_ONE_DESK) {
                EmbargoDesk mine = one.get();
                EmbargoDesk theirs = other.get();
                later.accept(mine);
                later.accept(theirs);
                int end = Math.min(questions.size(), first + QUESTIONS_OF_ONE_DESK);
                for (int number = first; number < end; number++) {
                    int told = questions.get(number).applyAsInt(mine);
                    int due = questions.get(number).applyAsInt(theirs);
                    if (told != due) {
                        return "question " + number + " later " + laters.indexOf(later) + ": " + told + ", not " + due;
                    }
                }
            }
        }
        return "";
    }

    /** What is done before the questions: nothing, and all that shows the history, the snapshot and the text. */
    private static final List<Consumer<EmbargoDesk>> LATERS = List.of(
        desk -> { },
        desk -> undo(desk, 1), desk -> undo(desk, 2), desk -> undo(desk, 3), desk -> undo(desk, 4), desk -> undo(desk, 5),
        EmbargoDesk::restore,
        EmbargoDesk::readStory,
        desk -> {
            desk.type('z');
            desk.readStory();
        },
        desk -> desk.pass(1),
        desk -> desk.pass(40));

    private static void undo(EmbargoDesk desk, int times) {
        for (int i = 0; i < times; i++) {
            desk.undo();
        }
    }

    private static int[] size(Supplier<EmbargoDesk> scene, Consumer<EmbargoDesk> later) {
        EmbargoDesk desk = scene.get();
        later.accept(desk);
        return new int[] {desk.count(1), desk.count(2), desk.count(3)};
    }

    private static List<ToIntFunction<EmbargoDesk>> questions(int[] size, int[] otherSize) {
        List<ToIntFunction<EmbargoDesk>> questions = new ArrayList<>();
        int clients = Math.max(size[0], otherSize[0]);
        int stories = Math.max(size[1], otherSize[1]);
        int copies = Math.max(size[2], otherSize[2]);
        ask(questions, 15, (desk, what) -> desk.count(what));
        ask(questions, 12 * 4, (desk, number) -> desk.event(number / 4, number % 4));
        ask(questions, 10 * 4, (desk, number) -> desk.person(number / 4, number % 4));
        ask(questions, (clients + 1) * 11, (desk, number) -> desk.client(number / 11, number % 11));
        ask(questions, (stories + 1) * 11, (desk, number) -> desk.story(number / 11, number % 11));
        ask(questions, (stories + 1) * 3, (desk, number) -> desk.byline(number / 3, number % 3));
        ask(questions, (stories + 1) * 12, (desk, number) -> desk.slugChar(number / 12, number % 12));
        ask(questions, (stories + 1) * 6, (desk, number) -> desk.correction(number / 6, number % 6));
        ask(questions, copies + 1, EmbargoDesk::copyAt);
        for (int client = 0; client < clients; client++) {
            int its = client;
            ask(questions, stories * 9, (desk, number) -> desk.copy(number / 9, its, number % 9));
            // The far hours cost much, and the near ones show the same: these are enough for what will be.
            questions.add(desk -> desk.wouldCome(its, 30));
            questions.add(desk -> desk.carriedIn(0, its));
        }
        return questions;
    }

    private static void ask(List<ToIntFunction<EmbargoDesk>> questions, int numbers, Question question) {
        for (int number = 0; number < numbers; number++) {
            int its = number;
            questions.add(desk -> question.ask(desk, its));
        }
    }

    private interface Question {
        int ask(EmbargoDesk desk, int number);
    }
}
