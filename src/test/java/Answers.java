import java.util.ArrayList;
import java.util.List;
import java.util.function.Consumer;
import java.util.function.ToLongFunction;

/**
 * Every answer that shows how an object stands behind a story. The story is told anew to object
 * after object, so that none of them is used beyond its 512 calls.
 */
final class Answers {
    private static final int ASKED_OF_ONE = 300;
    private static final int RELATIONS = 8;
    private static final int CONSTANTS = 12;

    private final Consumer<StrataHouse> story;
    private final List<String> all = new ArrayList<>();
    private StrataHouse house;
    private int asked;

    private Answers(Consumer<StrataHouse> story) {
        this.story = story;
        tellAnew();
    }

    static List<String> of(Consumer<StrataHouse> story) {
        Answers answers = new Answers(story);
        answers.askRelations();
        answers.askFacts();
        answers.tellAnew();
        answers.askGiven();
        answers.tellAnew();
        answers.makeRelations();
        answers.tellAnew();
        answers.takeRulesBack();
        return answers.all;
    }

    /** The first answer in which the two differ; "the same" if there is none. */
    static String difference(List<String> got, List<String> want) {
        for (int i = 0; i < Math.min(got.size(), want.size()); i++) {
            if (!got.get(i).equals(want.get(i))) {
                return got.get(i) + " where it is " + want.get(i);
            }
        }
        return got.size() == want.size() ? "the same" : "more or fewer answers";
    }

    private void tellAnew() {
        house = Stories.told(story);
        asked = 0;
    }

    private String ask(String what, ToLongFunction<StrataHouse> question) {
        if (asked >= ASKED_OF_ONE) {
            tellAnew();
        }
        asked++;
        String answer = Due.answerOf(() -> question.applyAsLong(house));
        all.add(what + " " + answer);
        return answer;
    }

    private void askRelations() {
        ask("fault()", x -> x.fault());
        for (int i = -1; i <= RELATIONS; i++) {
            int r = i;
            ask("layer(" + r + ")", x -> x.layer(r));
            ask("count(" + r + ")", x -> x.count(r));
        }
    }

    private void askFacts() {
        for (int i = 0; i < RELATIONS * CONSTANTS * CONSTANTS; i++) {
            int r = i / (CONSTANTS * CONSTANTS);
            int a = i / CONSTANTS % CONSTANTS;
            int b = i % CONSTANTS;
            String fact = "(" + r + ", " + a + ", " + b + ")";
            ask("rank" + fact, x -> x.rank(r, a, b));
            ask("ways" + fact, x -> x.ways(r, a, b));
            for (int what = 0; what <= 4; what++) {
                int told = what;
                ask("proof" + fact + told, x -> x.proof(r, a, b, told));
            }
        }
    }

    /** Each fact is another one, so none of these calls stands in the way of the next. */
    private void askGiven() {
        for (int i = 0; i < RELATIONS * CONSTANTS * CONSTANTS; i++) {
            int r = i / (CONSTANTS * CONSTANTS);
            int a = i / CONSTANTS % CONSTANTS;
            int b = i % CONSTANTS;
            ask("take(" + r + ", " + a + ", " + b + ")", x -> Due.bit(x.take(r, a, b)));
        }
    }

    private void makeRelations() {
        for (int i = 0; i <= RELATIONS; i++) {
            ask("relation(1)", x -> x.relation(1));
        }
    }

    /** Rule by rule from the latest on: how many literals there is room for, and what holds without it. */
    private void takeRulesBack() {
        for (int rule = 0; rule <= 16; rule++) {
            for (int i = 0; i <= 4; i++) {
                ask("literal(0, 0, 1, false)", x -> x.literal(0, 0, 1, false));
            }
            ask("unrule()", x -> {
                x.unrule();
                return 0;
            });
            ask("fault() without it", x -> x.fault());
            for (int i = 0; i < RELATIONS; i++) {
                int r = i;
                ask("count(" + r + ") without it", x -> x.count(r));
            }
        }
    }
}
