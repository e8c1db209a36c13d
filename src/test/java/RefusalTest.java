import java.util.ArrayList;
import java.util.List;
import java.util.NoSuchElementException;
import java.util.function.Consumer;
import java.util.function.ToLongFunction;

/** "A call that throws changes nothing.": each kind of refused call, and every answer behind it. */
public final class RefusalTest {
    private static final Class<IllegalArgumentException> ARGUMENT = IllegalArgumentException.class;
    private static final Class<IllegalStateException> STATE = IllegalStateException.class;
    private static final Class<UnsupportedOperationException> FULL = UnsupportedOperationException.class;
    private static final Class<NoSuchElementException> MISSING = NoSuchElementException.class;

    private record Refused(String name, ToLongFunction<StrataHouse> call, Class<? extends RuntimeException> want) {
        private void make(StrataHouse x) {
            Due.answerOf(() -> call.applyAsLong(x));
        }
    }

    private final Due due = new Due();
    private List<Refused> calls = new ArrayList<>();

    public static void main(String[] args) {
        RefusalTest test = new RefusalTest();
        test.due.sentence("A call that throws changes nothing.");
        test.withoutRelations();
        test.withoutRules();
        test.withRules();
        test.withFault("unsafe", Stories::unsafe);
        test.withFault("circle", Stories::circle);
        test.whenFull();
        test.withFourLiteralsAmongFewRules();
        test.wrongArgumentsWhenFull();
        test.due.end();
    }

    private void refused(String name, ToLongFunction<StrataHouse> call, Class<? extends RuntimeException> want) {
        calls.add(new Refused(name, call, want));
    }

    /** Each call alone behind answers, and all of them in a row before any answer. */
    private void check(String name, Consumer<StrataHouse> story) {
        List<String> before = Answers.of(story);
        Consumer<StrataHouse> row = story;
        for (Refused refused : calls) {
            due.raises(name + ": " + refused.name(),
                    () -> refused.call().applyAsLong(Stories.told(story)), refused.want());
            Consumer<StrataHouse> asked = story.andThen(RefusalTest::askSome).andThen(refused::make);
            due.same(name + ": behind " + refused.name() + " the answers",
                    Answers.difference(Answers.of(asked), before), "the same");
            row = row.andThen(refused::make);
        }
        due.same(name + ": behind all refused calls the answers",
                Answers.difference(Answers.of(row), before), "the same");
        calls = new ArrayList<>();
    }

    private static void askSome(StrataHouse x) {
        Due.answerOf(() -> x.fault());
        Due.answerOf(() -> x.count(0));
        Due.answerOf(() -> x.ways(1, 0, 5));
        Due.answerOf(() -> x.proof(1, 0, 5, 3));
    }

    private void withoutRelations() {
        refused("relation(-1)", x -> x.relation(-1), ARGUMENT);
        refused("relation(3)", x -> x.relation(3), ARGUMENT);
        refuseFact(0, 0, 0);
        refused("rule(0, 0, 0)", x -> x.rule(0, 0, 0), ARGUMENT);
        refused("layer(0)", x -> x.layer(0), ARGUMENT);
        refused("count(0)", x -> x.count(0), ARGUMENT);
        refuseForWantOfRules();
        check("no relation", x -> { });
    }

    private void withoutRules() {
        refuseWrongArguments();
        refuseForWantOfRules();
        refused("proof of none", x -> x.proof(0, 0, 0, 0), MISSING);
        check("no rule, no fact", Stories::relations);
        refuseForWantOfRules();
        refused("proof of a given fact", x -> x.proof(0, 0, 1, 0), MISSING);
        check("no rule", Stories::facts);
    }

    private void withRules() {
        refuseWrongArguments();
        refuseWrongLiterals();
        refused("proof of none", x -> x.proof(1, 5, 0, 0), MISSING);
        refused("proof of a given fact", x -> x.proof(0, 0, 1, 4), MISSING);
        check("chain", Stories::chain);
    }

    private void withFault(String name, Consumer<StrataHouse> story) {
        refused("layer(0)", x -> x.layer(0), STATE);
        refused("count(0)", x -> x.count(0), STATE);
        refused("rank(0, 0, 1)", x -> x.rank(0, 0, 1), STATE);
        refused("ways(1, 0, 1)", x -> x.ways(1, 0, 1), STATE);
        refused("proof(1, 0, 1, 0)", x -> x.proof(1, 0, 1, 0), STATE);
        refuseWrongLiterals();
        check(name, story);
    }

    private void whenFull() {
        refused("a ninth relation", x -> x.relation(1), FULL);
        refused("a seventeenth rule", x -> x.rule(1, 3, 4), FULL);
        refused("a seventeenth rule that would not be safe", x -> x.rule(1, 20, 4), FULL);
        refused("a fifth literal", x -> x.literal(1, 20, 23, false), FULL);
        refused("a fifth literal that would not be safe", x -> x.literal(7, 20, 23, true), FULL);
        refused("proof of none", x -> x.proof(7, 8, 8, 0), MISSING);
        refused("proof of a given fact", x -> x.proof(7, 11, 0, 0), MISSING);
        check("full", Stories::full);
    }

    private void withFourLiteralsAmongFewRules() {
        refused("a fifth literal", x -> x.literal(0, 3, 4, true), FULL);
        check("four literals", x -> {
            Stories.eightRelations(x);
            x.rule(1, 20, 21);
            x.literal(0, 20, 21, false);
            Stories.sixteenthRule(x);
        });
    }

    private void wrongArgumentsWhenFull() {
        refuseWrongArguments();
        refuseWrongLiterals();
        check("full", Stories::full);
    }

    private void refuseForWantOfRules() {
        refused("literal(0, 0, 0, false)", x -> x.literal(0, 0, 0, false), STATE);
        refused("unrule()", x -> {
            x.unrule();
            return 0;
        }, STATE);
    }

    private void refuseWrongArguments() {
        refused("relation(-1)", x -> x.relation(-1), ARGUMENT);
        refused("relation(3)", x -> x.relation(3), ARGUMENT);
        refuseFact(-1, 0, 0);
        refuseFact(8, 0, 0);
        refuseFact(0, 12, 1);
        refuseFact(0, 0, -1);
        refuseFact(2, 20, 0);
        refused("rule(-1, 0, 0)", x -> x.rule(-1, 0, 0), ARGUMENT);
        refused("rule(8, 0, 0)", x -> x.rule(8, 0, 0), ARGUMENT);
        refused("rule(0, 24, 0)", x -> x.rule(0, 24, 0), ARGUMENT);
        refused("rule(0, 7, 12)", x -> x.rule(0, 7, 12), ARGUMENT);
        refused("rule(2, 19, 0)", x -> x.rule(2, 19, 0), ARGUMENT);
        refused("layer(-1)", x -> x.layer(-1), ARGUMENT);
        refused("count(8)", x -> x.count(8), ARGUMENT);
        refused("proof of what -1", x -> x.proof(1, 0, 2, -1), ARGUMENT);
        refused("proof of what 5", x -> x.proof(1, 0, 2, 5), ARGUMENT);
    }

    private void refuseWrongLiterals() {
        refused("literal(-1, ..)", x -> x.literal(-1, 0, 0, false), ARGUMENT);
        refused("literal(8, ..)", x -> x.literal(8, 0, 0, true), ARGUMENT);
        refused("literal(0, 12, 0, ..)", x -> x.literal(0, 12, 0, true), ARGUMENT);
        refused("literal(0, 20, 24, ..)", x -> x.literal(0, 20, 24, false), ARGUMENT);
        refused("literal(2, -1, 0, ..)", x -> x.literal(2, -1, 0, false), ARGUMENT);
    }

    private void refuseFact(int r, int a, int b) {
        String fact = "(" + r + ", " + a + ", " + b + ")";
        refused("give" + fact, x -> Due.bit(x.give(r, a, b)), ARGUMENT);
        refused("take" + fact, x -> Due.bit(x.take(r, a, b)), ARGUMENT);
        refused("rank" + fact, x -> x.rank(r, a, b), ARGUMENT);
        refused("ways" + fact, x -> x.ways(r, a, b), ARGUMENT);
        refused("proof" + fact, x -> x.proof(r, a, b, 0), ARGUMENT);
    }
}
