import java.util.LinkedHashMap;
import java.util.Map;
import java.util.function.Consumer;

/** What is answered when something has gone again: behind clear, unrule and take. */
public final class AfterTest {
    private final Due due = new Due();
    private final Map<String, Consumer<StrataHouse>> stories = Stories.all();

    public static void main(String[] args) {
        AfterTest test = new AfterTest();
        test.clearLeavesNothing();
        test.clearLeavesRoomForAll();
        test.unruleTakesTheLatest();
        test.unruleTakesOneOfSixteen();
        test.unruleTakesAll();
        test.literalBehindUnrule();
        test.takeUndoesGive();
        test.due.end();
    }

    private static void ask(StrataHouse x) {
        Due.answerOf(() -> x.fault());
        Due.answerOf(() -> x.layer(0));
        Due.answerOf(() -> x.count(0));
        Due.answerOf(() -> x.ways(1, 0, 5));
        Due.answerOf(() -> x.proof(1, 0, 5, 3));
    }

    private void alike(String what, Consumer<StrataHouse> told, Consumer<StrataHouse> want) {
        due.same(what, Answers.difference(Answers.of(told), Answers.of(want)), "the same");
    }

    private void clearLeavesNothing() {
        due.sentence("Promise 2: All goes.");
        stories.forEach((name, story) -> {
            alike(name + ", clear", story.andThen(StrataHouse::clear), x -> { });
            alike(name + ", asked, clear", story.andThen(AfterTest::ask).andThen(StrataHouse::clear), x -> { });
        });
        alike("clear twice", x -> {
            Stories.full(x);
            x.clear();
            x.clear();
        }, x -> { });
        alike("clear, asked in vain", x -> {
            Stories.full(x);
            x.clear();
            ask(x);
        }, x -> { });
    }

    /** Nothing of the first story shows in the second, be it longer or shorter, with a fault or without. */
    private void clearLeavesRoomForAll() {
        due.sentence("Promise 2: All goes.");
        stories.forEach((first, before) -> stories.forEach((second, behind) ->
                alike(first + ", clear, " + second,
                        before.andThen(AfterTest::ask).andThen(StrataHouse::clear).andThen(behind), behind)));
        alike("relations of other places behind clear", x -> {
            Stories.full(x);
            x.clear();
            x.relation(0);
            x.relation(1);
            x.relation(2);
        }, x -> {
            x.relation(0);
            x.relation(1);
            x.relation(2);
        });
    }

    /** Rules that can stand behind any story of relations 0 to 3. */
    private static Map<String, Consumer<StrataHouse>> rules() {
        Map<String, Consumer<StrataHouse>> rules = new LinkedHashMap<>();
        rules.put("a rule without literals", x -> x.rule(0, 5, 0));
        rules.put("a rule that isn't safe", x -> x.rule(0, 20, 21));
        rules.put("a rule that denies its head", x -> {
            x.rule(3, 0, 0);
            x.literal(3, 0, 0, true);
        });
        rules.put("a rule that raises its head's layer", x -> {
            x.rule(1, 20, 21);
            x.literal(0, 20, 21, false);
            x.literal(3, 0, 0, true);
        });
        rules.put("a rule with four literals", x -> {
            x.rule(1, 20, 21);
            x.literal(0, 20, 22, false);
            x.literal(0, 22, 23, false);
            x.literal(0, 23, 21, false);
            x.literal(2, 20, 0, true);
        });
        return rules;
    }

    private void unruleTakesTheLatest() {
        due.sentence("Promise 8: The latest rule goes.");
        stories.forEach((name, story) -> {
            if (name.equals("nothing") || name.equals("full")) {
                return;
            }
            rules().forEach((what, rule) -> alike(name + ", " + what + ", unrule",
                    story.andThen(rule).andThen(AfterTest::ask).andThen(StrataHouse::unrule), story));
        });
        alike("the rule that isn't safe goes",
                x -> {
                    Stories.unsafe(x);
                    x.unrule();
                }, Stories::chain);
        alike("the rule in the circle goes",
                x -> {
                    Stories.circle(x);
                    x.unrule();
                }, Stories::chain);
        StrataHouse y = Stories.told(Stories::chain);
        due.is("reached before", () -> y.count(1), 15);
        y.unrule();
        due.is("reached behind unrule", () -> y.count(1), 5);
        due.is("rank behind unrule", () -> y.rank(1, 0, 2), StrataHouse.NONE);
        due.is("ways behind unrule", () -> y.ways(1, 0, 2), 0);
        due.is("the given facts stay", () -> y.count(0), 5);
        y.unrule();
        due.is("nothing follows without rules", () -> y.count(1), 0);
    }

    private void unruleTakesOneOfSixteen() {
        due.sentence("Promise 8: The latest rule goes.");
        alike("full, unrule, the sixteenth again", x -> {
            Stories.full(x);
            ask(x);
            x.unrule();
            Stories.sixteenthRule(x);
        }, Stories::full);
        StrataHouse y = Stories.told(Stories::full);
        y.unrule();
        due.is("the number 15 is free again", () -> y.rule(7, 0, 0), 15);
        due.raises("and but that one", () -> y.rule(7, 0, 0), UnsupportedOperationException.class);
    }

    private void unruleTakesAll() {
        due.sentence("Promise 8: IllegalStateException if there is none.");
        alike("full, unrule sixteen times", x -> {
            Stories.full(x);
            ask(x);
            for (int i = 0; i < 16; i++) {
                x.unrule();
            }
        }, Stories::eightRelations);
        StrataHouse y = Stories.told(Stories::full);
        for (int i = 16; i > 0; i--) {
            due.is("unrule with " + i, () -> {
                y.unrule();
                return 0;
            }, 0);
        }
        due.raises("unrule with none", () -> {
            y.unrule();
            return 0;
        }, IllegalStateException.class);
        due.raises("literal with none", () -> y.literal(0, 0, 0, false), IllegalStateException.class);
        due.is("the numbers begin anew", () -> y.rule(0, 0, 0), 0);
    }

    private void literalBehindUnrule() {
        due.sentence("Promise 7: A literal more for the latest rule: how many it has.");
        StrataHouse x = Stories.told(Stories::chain);
        for (int i = 3; i <= 4; i++) {
            x.literal(0, 20, 23, false);
        }
        x.rule(3, 0, 0);
        x.literal(2, 0, 0, false);
        x.unrule();
        due.raises("the one before has four", () -> x.literal(0, 20, 21, false), UnsupportedOperationException.class);
        x.unrule();
        due.is("the one before that has one", () -> x.literal(0, 21, 22, false), 2);
        due.is("both its literals count", () -> x.count(1), 4);
        due.is("the rule that comes behind", () -> x.rule(3, 0, 0), 1);
        due.is("has none of the old literals", () -> x.count(3), 1);
        due.is("its first", () -> x.literal(2, 0, 0, false), 1);
        due.is("holds it back", () -> x.count(3), 0);
    }

    private void takeUndoesGive() {
        due.sentence("Promise 5: A given fact goes: whether it was one.");
        int[][] facts = {{0, 0, 0}, {0, 11, 11}, {1, 0, 1}, {1, 5, 0}, {2, 0, 0}, {2, 11, 0}, {3, 0, 0}};
        for (int[] fact : facts) {
            alike("give, take of (" + fact[0] + ", " + fact[1] + ", " + fact[2] + ")", x -> {
                Stories.chain(x);
                x.give(fact[0], fact[1], fact[2]);
                ask(x);
                x.take(fact[0], fact[1], fact[2]);
            }, Stories::chain);
        }
        alike("take, give", x -> {
            Stories.chain(x);
            x.take(0, 2, 3);
            ask(x);
            x.give(0, 2, 3);
        }, Stories::chain);
    }
}
