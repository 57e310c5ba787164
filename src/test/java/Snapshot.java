import java.util.ArrayList;
import java.util.List;

/** The answers to all that can be asked of an object after a scene. */
final class Snapshot {
    private static final List<String> NAMES = new ArrayList<>();
    private static final List<Question> QUESTIONS = new ArrayList<>();

    private final List<Integer> answers = new ArrayList<>();

    private interface Question {
        int ask(Counted x);
    }

    static {
        for (int node = 0; node < 4; node++) {
            addQuestionsOfNode(node);
        }
        for (int i = 0; i <= 800; i++) {
            int m = i;
            for (int w = 0; w <= 2; w++) {
                int what = w;
                add("message(" + m + ", " + what + ")", x -> x.message(m, what));
            }
        }
        for (int i = 0; i <= 90; i++) {
            int v = i;
            for (int w = 0; w <= 4; w++) {
                int what = w;
                add("vertex(" + v + ", " + what + ")", x -> x.vertex(v, what));
            }
        }
    }

    /** The scene is played again for as many questions as one object has calls left for. */
    Snapshot(Scene scene) {
        Counted x = scene.played();
        for (Question question : QUESTIONS) {
            if (x.callsLeft() <= 0) {
                x = scene.played();
            }
            answers.add(question.ask(x));
        }
    }

    private static void add(String name, Question question) {
        NAMES.add(name);
        QUESTIONS.add(question);
    }

    private static void addQuestionsOfNode(int node) {
        for (int w = 0; w <= 8; w++) {
            int what = w;
            add("node(" + node + ", " + what + ")", x -> x.node(node, what));
        }
        for (int i = 0; i <= 40; i++) {
            int position = i;
            add("at(" + node + ", " + position + ")", x -> x.at(node, position));
        }
        for (int i = 0; i < 4; i++) {
            int of = i;
            add("balance(" + node + ", " + of + ")", x -> x.balance(node, of));
            for (int r = 1; r <= 14; r++) {
                int round = r;
                add("dag(" + node + ", " + of + ", " + round + ")", x -> x.dag(node, of, round));
            }
        }
    }

    /** All nodes up with 100 in each account and nothing else, and nothing on the board. */
    void mustBeNew(String when) {
        for (int i = 0; i < answers.size(); i++) {
            String name = NAMES.get(i);
            int due = -1;
            if (name.startsWith("node")) {
                due = name.endsWith(", 0)") ? 1 : 0;
            } else if (name.startsWith("balance")) {
                due = 100;
            }
            Check.due(when + ": " + name, answers.get(i), due);
        }
    }

    void mustBe(String when, Snapshot due) {
        for (int i = 0; i < answers.size(); i++) {
            Check.due(when + ": " + NAMES.get(i), answers.get(i), due.answers.get(i));
        }
    }
}
