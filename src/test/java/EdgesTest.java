import java.util.List;
import java.util.NoSuchElementException;
import java.util.function.Consumer;

/** What the words safe, layered, round, rank, way and proof leave just in and just out. */
public final class EdgesTest {
    private static final int NONE = StrataHouse.NONE;
    private static final Class<IllegalArgumentException> ARGUMENT = IllegalArgumentException.class;
    private static final Class<IllegalStateException> STATE = IllegalStateException.class;
    private static final Class<NoSuchElementException> MISSING = NoSuchElementException.class;

    private final Due due = new Due();

    public static void main(String[] args) {
        EdgesTest test = new EdgesTest();
        test.noRelation();
        test.noRule();
        test.noLiteral();
        test.negatedLiteralsAlone();
        test.safeByEachVariable();
        test.firstThatIsntSafe();
        test.circles();
        test.leastLayers();
        test.faultRefusesAnswers();
        test.roundsSeeTheRoundBefore();
        test.roundsOfEachLayer();
        test.givenHasRankNought();
        test.negationSeesTheWholeLayerBelow();
        test.negationOfTwoVariables();
        test.oneVariableTwice();
        test.waysCountInstances();
        test.proofBuildsOnLowerRanks();
        test.proofTakesTheLeastRule();
        test.proofTakesTheLeastValues();
        test.due.end();
    }

    private static Due.Call done(StrataHouse x, Consumer<StrataHouse> call) {
        return () -> {
            call.accept(x);
            return 0;
        };
    }

    private void noRelation() {
        due.sentence("Promise 1: No relations.");
        StrataHouse x = new StrataHouse();
        due.is("fault()", () -> x.fault(), NONE);
        due.is("clear()", done(x, StrataHouse::clear), 0);
        due.raises("give(0, ..)", () -> Due.bit(x.give(0, 0, 0)), ARGUMENT);
        due.raises("take(0, ..)", () -> Due.bit(x.take(0, 0, 0)), ARGUMENT);
        due.raises("rule(0, ..)", () -> x.rule(0, 0, 0), ARGUMENT);
        due.raises("literal(0, ..)", () -> x.literal(0, 0, 0, false), STATE);
        due.raises("unrule()", done(x, StrataHouse::unrule), STATE);
        due.raises("layer(0)", () -> x.layer(0), ARGUMENT);
        due.raises("count(0)", () -> x.count(0), ARGUMENT);
        due.raises("rank(0, ..)", () -> x.rank(0, 0, 0), ARGUMENT);
        due.raises("ways(0, ..)", () -> x.ways(0, 0, 0), ARGUMENT);
        due.raises("proof(0, ..)", () -> x.proof(0, 0, 0, 0), ARGUMENT);
        due.is("the first relation", () -> x.relation(2), 0);
    }

    private void noRule() {
        due.sentence("Promise 9: NONE if all rules are safe and layered");
        StrataHouse x = Stories.relationsOf(2, 1, 0);
        x.give(0, 0, 11);
        x.give(2, 0, 0);
        due.is("without rules", () -> x.fault(), NONE);
        due.sentence("Terms 2: the given facts of the layer's relations");
        due.is("layers", () -> x.layer(0) + x.layer(1) + x.layer(2), 0);
        due.is("given ones hold", () -> x.count(0) * 100 + x.count(1) * 10 + x.count(2), 101);
        due.is("rank of one", () -> x.rank(0, 0, 11), 0);
        due.is("rank of another", () -> x.rank(0, 11, 0), NONE);
        due.is("ways of one", () -> x.ways(0, 0, 11), 0);
        due.raises("proof of one", () -> x.proof(0, 0, 11, 0), MISSING);
        due.raises("proof of another", () -> x.proof(0, 11, 0, 0), MISSING);
    }

    private void noLiteral() {
        due.sentence("Promise 6: A rule with this head, without literals");
        StrataHouse x = Stories.relationsOf(2, 1, 0);
        x.rule(0, 0, 11);
        x.rule(1, 11, 0);
        x.rule(2, 0, 0);
        due.is("constants are safe", () -> x.fault(), NONE);
        due.is("each brings its head alone", () -> x.count(0) * 100 + x.count(1) * 10 + x.count(2), 111);
        due.is("in round 1", () -> x.rank(0, 0, 11), 1);
        due.is("not its mirror", () -> x.rank(0, 11, 0), NONE);
        due.is("in one way", () -> x.ways(1, 11, 0), 1);
        due.is("proof's rule", () -> x.proof(2, 0, 0, 0), 2);
        for (int what = 1; what <= 4; what++) {
            int told = what;
            due.is("proof's value " + what, () -> x.proof(2, 0, 0, told), NONE);
        }
        x.rule(1, 23, 0);
        due.is("a variable isn't safe", () -> x.fault(), 3);
    }

    private void negatedLiteralsAlone() {
        due.sentence("Terms 1: SAFE if each variable of its head and of its negated literals stands in a positive one");
        StrataHouse x = Stories.relationsOf(0, 2, 1, 0);
        x.rule(0, 0, 0);
        x.literal(1, 0, 11, true);
        x.literal(2, 11, 0, true);
        x.literal(3, 0, 0, true);
        due.is("constants alone are safe", () -> x.fault(), NONE);
        due.is("it follows from nothing", () -> x.rank(0, 0, 0), 1);
        due.is("in one way", () -> x.ways(0, 0, 0), 1);
        due.is("by rule 0", () -> x.proof(0, 0, 0, 0), 0);
        int[][] facts = {{1, 0, 11}, {2, 11, 0}, {3, 0, 0}};
        for (int[] fact : facts) {
            x.give(fact[0], fact[1], fact[2]);
            due.is("each of them denies it", () -> x.count(0), 0);
            x.take(fact[0], fact[1], fact[2]);
            due.is("until it is gone", () -> x.count(0), 1);
        }
        x.give(1, 11, 0);
        x.give(2, 0, 0);
        due.is("others don't", () -> x.count(0), 1);
    }

    private void safeByEachVariable() {
        due.sentence("Terms 1: SAFE if each variable of its head and of its negated literals stands in a positive one");
        for (int variable = 20; variable <= 23; variable++) {
            int v = variable;
            needsPositive("head's first", v, x -> x.rule(1, v, 3));
            needsPositive("head's second", v, x -> x.rule(1, 3, v));
            needsPositive("head of one place", v, x -> x.rule(2, v, 3));
            needsPositive("negated literal's first", v, x -> {
                x.rule(1, 3, 3);
                x.literal(0, v, 3, true);
            });
            needsPositive("negated literal's second", v, x -> {
                x.rule(1, 3, 3);
                x.literal(0, 3, v, true);
            });
        }
        StrataHouse y = Stories.relationsOf(2, 2);
        y.rule(1, 3, 3);
        y.literal(0, 20, 21, false);
        y.literal(0, 22, 23, false);
        due.is("variables of positive literals alone", () -> y.fault(), NONE);
    }

    /** Not safe until the variable itself stands in a positive literal, in whichever place. */
    private void needsPositive(String where, int variable, Consumer<StrataHouse> rule) {
        int other = variable == 23 ? 20 : variable + 1;
        for (int place = 0; place < 2; place++) {
            StrataHouse x = Stories.relationsOf(2, 2, 1);
            rule.accept(x);
            String name = where + " " + variable;
            due.is(name, () -> x.fault(), 0);
            x.literal(0, other, 3, false);
            due.is(name + " with another variable", () -> x.fault(), 0);
            x.literal(0, place == 0 ? variable : 3, place == 0 ? 3 : variable, false);
            due.is(name + " with itself in place " + place, () -> x.fault(), NONE);
        }
    }

    private void firstThatIsntSafe() {
        due.sentence("Promise 9: otherwise the first one that isn't safe");
        for (int first = 0; first < 16; first++) {
            StrataHouse x = Stories.relationsOf(1, 0);
            for (int i = 0; i < 16; i++) {
                x.rule(0, i == first || i == 15 ? 20 : 3, 0);
            }
            due.is("rule " + first + " and the last", () -> x.fault(), first);
        }
        due.sentence("Promise 9: 100 if all are, but they aren't layered.");
        StrataHouse y = Stories.relationsOf(1, 0);
        y.rule(1, 0, 0);
        y.literal(1, 0, 0, true);
        due.is("a circle", () -> y.fault(), 100);
        for (int i = 1; i < 16; i++) {
            y.rule(0, 3, 0);
        }
        due.is("a circle among sixteen", () -> y.fault(), 100);
        y.unrule();
        y.rule(0, 20, 0);
        due.is("a circle, and the last not safe", () -> y.fault(), 15);
        y.literal(0, 20, 0, false);
        due.is("a circle, and the last safe again", () -> y.fault(), 100);
    }

    /** The relations of a circle, from a head to its literal and so on, back to the first. */
    private static StrataHouse circleOf(int length, int negated) {
        StrataHouse x = Stories.relationsOf(0, 0, 0, 0, 0, 0, 0, 0);
        for (int i = 0; i < length; i++) {
            x.rule(i, 0, 0);
            x.literal((i + 1) % length, 0, 0, i == negated);
        }
        return x;
    }

    private void circles() {
        due.sentence("Terms 1: the head's is at least that of each positive literal's relation, "
                + "and above that of each negated one's");
        for (int length = 1; length <= 8; length++) {
            StrataHouse positive = circleOf(length, -1);
            due.is("a positive circle of " + length, () -> positive.fault(), NONE);
            due.is("its layer", () -> positive.layer(0), 0);
            due.is("nothing follows in it", () -> positive.count(0), 0);
            for (int i = 0; i < length; i++) {
                StrataHouse x = circleOf(length, i);
                due.is("a circle of " + length + ", negated at " + i, () -> x.fault(), 100);
                due.raises("its layer", () -> x.layer(7), STATE);
                x.unrule();
                due.is("without its last rule", () -> x.fault(), NONE);
            }
        }
        StrataHouse y = Stories.relationsOf(1, 1, 1);
        y.rule(1, 20, 0);
        y.literal(0, 20, 0, false);
        y.literal(2, 20, 0, true);
        y.rule(2, 3, 0);
        y.literal(0, 3, 0, true);
        due.is("two negations in no circle", () -> y.fault(), NONE);
        y.rule(0, 5, 0);
        y.literal(0, 7, 0, true);
        due.is("by its relation, not by its facts", () -> y.fault(), 100);
    }

    private void leastLayers() {
        due.sentence("Promise 10: The layer of a relation.");
        StrataHouse up = Stories.relationsOf(0, 0, 0, 0, 0, 0, 0, 0);
        StrataHouse down = Stories.relationsOf(0, 0, 0, 0, 0, 0, 0, 0);
        for (int i = 1; i < 8; i++) {
            up.rule(i, 0, 0);
            up.literal(i - 1, 0, 0, true);
            down.rule(i - 1, 0, 0);
            down.literal(i, 0, 0, true);
        }
        for (int i = 0; i < 8; i++) {
            int number = i;
            due.is("up: layer of " + i, () -> up.layer(number), number);
            due.is("up: every other one holds", () -> up.count(number), number % 2);
            due.is("down: layer of " + i, () -> down.layer(number), 7 - number);
            due.is("down: every other one holds", () -> down.count(number), (7 - number) % 2);
        }
        StrataHouse x = Stories.relationsOf(0, 0, 0, 0, 0);
        x.rule(1, 0, 0);
        x.literal(0, 0, 0, true);
        x.rule(2, 0, 0);
        x.literal(1, 0, 0, false);
        due.is("positive: the same", () -> x.layer(2), 1);
        x.rule(3, 0, 0);
        x.literal(0, 0, 0, true);
        x.literal(2, 0, 0, true);
        due.is("the higher of two", () -> x.layer(3), 2);
        x.rule(3, 0, 0);
        due.is("a rule that asks less", () -> x.layer(3), 2);
        due.is("no rule's head", () -> x.layer(4), 0);
        x.unrule();
        x.unrule();
        due.is("behind unrule", () -> x.layer(3), 0);
    }

    private void faultRefusesAnswers() {
        for (String name : List.of("unsafe", "circle")) {
            StrataHouse x = Stories.told(Stories.all().get(name));
            due.sentence("Promise 10: IllegalStateException if there is a fault.");
            due.raises("layer", () -> x.layer(3), STATE);
            due.sentence("Promise 11: Exceptions as for layer().");
            due.raises("count", () -> x.count(0), STATE);
            due.sentence("Promise 12: IllegalStateException if there is a fault.");
            due.raises("rank", () -> x.rank(0, 0, 1), STATE);
            due.sentence("Promise 13: Exceptions as for rank().");
            due.raises("ways", () -> x.ways(0, 0, 1), STATE);
            due.sentence("Promise 14: Exceptions as for rank()");
            for (int what = 0; what <= 4; what++) {
                int told = what;
                due.raises("proof", () -> x.proof(1, 0, 1, told), STATE);
            }
            due.raises("proof of a given one", () -> x.proof(0, 0, 1, 0), STATE);
            due.raises("proof of none", () -> x.proof(0, 1, 0, 0), STATE);
            due.sentence("Promise 4: A given fact more");
            due.is("give with a fault", () -> Due.bit(x.give(0, 7, 7)), 1);
            due.is("take with a fault", () -> Due.bit(x.take(0, 7, 7)), 1);
            due.is("relation with a fault", () -> x.relation(0), 4);
            due.is("rule with a fault", () -> x.rule(4, 0, 0), 3);
            due.is("literal with a fault", () -> x.literal(3, 0, 0, true), 1);
            x.unrule();
            x.unrule();
            due.is("without it", () -> x.count(1), 15);
        }
    }

    /** Rule i brings fact i + 1 by fact i; the last rule first, so that none waits by its place in the row. */
    private void roundsSeeTheRoundBefore() {
        due.sentence("Terms 2: of which all positive literals held behind the round before");
        StrataHouse up = Stories.relationsOf(1);
        StrataHouse down = Stories.relationsOf(1);
        up.rule(0, 0, 0);
        for (int i = 0; i < 11; i++) {
            up.rule(0, i + 1, 0);
            up.literal(0, i, 0, false);
            down.rule(0, 11 - i, 0);
            down.literal(0, 10 - i, 0, false);
        }
        down.rule(0, 0, 0);
        for (int i = 0; i < 12; i++) {
            int number = i;
            due.is("first rule first, fact " + i, () -> up.rank(0, number, 0), number + 1);
            due.is("last rule first, fact " + i, () -> down.rank(0, number, 0), number + 1);
        }
        up.rule(0, 11, 0);
        up.literal(0, 0, 0, false);
        up.literal(0, 5, 0, false);
        due.is("behind the later of two literals", () -> up.rank(0, 11, 0), 7);
        up.literal(0, 11, 0, false);
        due.is("by itself it doesn't come", () -> up.rank(0, 11, 0), 12);
        due.is("though that is a way", () -> up.ways(0, 11, 0), 2);
    }

    private void roundsOfEachLayer() {
        due.sentence("Terms 2: (or are of a layer below, and hold)");
        StrataHouse x = Stories.told(Stories::chain);
        x.rule(2, 20, 0);
        x.literal(1, 0, 20, false);
        x.literal(3, 0, 0, true);
        due.is("rank 5 below", () -> x.rank(1, 0, 5), 5);
        due.is("round 1 above", () -> x.rank(2, 5, 0), 1);
        x.unrule();
        x.rule(2, 20, 0);
        x.literal(1, 0, 20, false);
        due.is("round 6 in the same layer", () -> x.rank(2, 5, 0), 6);
    }

    private void givenHasRankNought() {
        due.sentence("Terms 2: The RANK of a fact that holds: 0 if it is given, otherwise the round in which it came.");
        StrataHouse x = Stories.told(Stories::chain);
        due.is("it follows in round 1", () -> x.rank(1, 0, 1), 1);
        due.is("new all the same", () -> Due.bit(x.give(1, 0, 1)), 1);
        due.is("given, too", () -> x.rank(1, 0, 1), 0);
        due.is("it is counted once", () -> x.count(1), 15);
        due.is("its ways stay", () -> x.ways(1, 0, 1), 1);
        due.sentence("Promise 14: NoSuchElementException if it doesn't hold, or is given.");
        due.raises("its proof goes", () -> x.proof(1, 0, 1, 0), MISSING);
        due.sentence("Promise 12: NONE if it doesn't hold.");
        due.is("one that doesn't hold", () -> x.rank(1, 1, 0), NONE);
        due.sentence("Promise 5: A given fact goes");
        due.is("it was one", () -> Due.bit(x.take(1, 0, 1)), 1);
        due.is("now it follows alone", () -> x.rank(1, 0, 1), 1);
        due.is("and is none to be taken", () -> Due.bit(x.take(1, 0, 1)), 0);
        due.is("it holds still", () -> x.rank(1, 0, 1), 1);
    }

    private void negationSeesTheWholeLayerBelow() {
        due.sentence("Terms 2: and no negated one holds");
        StrataHouse x = Stories.told(Stories::chain);
        x.rule(2, 21, 0);
        x.literal(0, 20, 21, false);
        x.literal(1, 0, 21, true);
        due.is("what came last denies, too", () -> x.count(2), 0);
        x.give(0, 7, 7);
        due.is("what never comes doesn't", () -> x.rank(2, 7, 0), 1);
        due.is("alone", () -> x.count(2), 1);
        due.is("its ways", () -> x.ways(2, 7, 0), 1);
        x.give(1, 0, 7);
        due.is("what is given denies", () -> x.count(2), 0);
        due.is("no way is left", () -> x.ways(2, 7, 0), 0);
        x.take(1, 0, 7);
        x.give(2, 5, 0);
        due.is("a given fact holds, whatever denies it", () -> x.rank(2, 5, 0), 0);
    }

    private void negationOfTwoVariables() {
        due.sentence("Terms 2: and no negated one holds");
        int[] ends = {0, 11};
        StrataHouse x = Stories.relationsOf(2, 2, 2);
        x.rule(1, 20, 21);
        x.literal(0, 20, 21, false);
        x.literal(2, 20, 21, true);
        for (int a : ends) {
            for (int b : ends) {
                x.give(0, a, b);
                due.is("not denied", () -> x.rank(1, a, b), 1);
                due.is("in one way", () -> x.ways(1, a, b), 1);
                x.give(2, a, b);
                due.is("denied", () -> x.rank(1, a, b), NONE);
                due.is("in no way", () -> x.ways(1, a, b), 0);
                x.take(2, a, b);
            }
        }
        due.is("none is denied", () -> x.count(1), 4);
        x.give(2, 0, 11);
        due.is("one of four is denied", () -> x.count(1), 3);
        due.is("not its mirror", () -> x.rank(1, 11, 0), 1);
    }

    private void oneVariableTwice() {
        due.sentence("Terms 2: An INSTANCE of a rule is a constant for each variable that it has.");
        StrataHouse x = Stories.relationsOf(2, 1, 1, 2);
        x.rule(1, 20, 0);
        x.literal(0, 20, 20, false);
        x.rule(2, 20, 0);
        x.literal(0, 20, 21, false);
        x.literal(0, 20, 20, true);
        x.rule(3, 22, 22);
        x.literal(0, 22, 23, false);
        int[][] facts = {{0, 0}, {11, 11}, {0, 11}, {3, 4}, {4, 0}};
        for (int[] fact : facts) {
            x.give(0, fact[0], fact[1]);
        }
        due.is("in a positive literal", () -> x.count(1), 2);
        due.is("in a negated literal", () -> x.count(2), 2);
        due.is("in a head", () -> x.count(3), 4);
        due.is("the head's two places are one value", () -> x.rank(3, 0, 11), NONE);
        x.take(0, 0, 0);
        due.is("one goes", () -> x.rank(1, 0, 0), NONE);
        due.is("the other stays", () -> x.rank(1, 11, 0), 1);
        due.is("no longer denied", () -> x.rank(2, 0, 0), 1);
        due.is("denied still", () -> x.rank(2, 11, 0), NONE);
    }

    private void waysCountInstances() {
        due.sentence("Terms 2: Its WAYS: instances of rules with it as head of which all positive literals hold "
                + "and no negated one does.");
        StrataHouse x = Stories.relationsOf(2, 1, 0, 1);
        x.rule(2, 0, 0);
        x.literal(0, 20, 21, false);
        x.give(0, 0, 0);
        due.is("one instance", () -> x.ways(2, 0, 0), 1);
        x.give(0, 0, 11);
        x.give(0, 11, 0);
        due.is("three", () -> x.ways(2, 0, 0), 3);
        x.literal(0, 21, 20, false);
        due.is("the same with both ways round", () -> x.ways(2, 0, 0), 3);
        x.literal(0, 20, 20, false);
        due.is("those from 0", () -> x.ways(2, 0, 0), 2);
        x.literal(1, 21, 0, true);
        x.give(1, 11, 0);
        due.is("but to 11", () -> x.ways(2, 0, 0), 1);
        x.rule(2, 0, 0);
        x.literal(0, 23, 22, false);
        due.is("of two rules", () -> x.ways(2, 0, 0), 4);
        x.rule(3, 20, 0);
        x.literal(0, 20, 20, false);
        due.is("another head's rule", () -> x.ways(2, 0, 0), 4);
        due.is("of a given one without rules", () -> x.ways(1, 11, 0), 0);
        due.is("of one with its variable twice", () -> x.ways(3, 0, 0), 1);
        due.is("of one that doesn't hold", () -> x.ways(3, 11, 0), 0);
    }

    private void proofBuildsOnLowerRanks() {
        due.sentence("Terms 2: of the ways whose positive literals of the same layer have a rank below its own");
        StrataHouse x = Stories.relationsOf(1, 1, 0);
        x.rule(0, 0, 0);
        x.literal(0, 1, 0, false);
        x.rule(0, 1, 0);
        x.literal(0, 0, 0, false);
        x.rule(0, 0, 0);
        x.rule(0, 1, 0);
        due.is("both come at once", () -> x.rank(0, 0, 0) * 10 + x.rank(0, 1, 0), 11);
        due.is("a rank like its own is not below", () -> x.proof(0, 0, 0, 0), 2);
        due.is("nor for the other", () -> x.proof(0, 1, 0, 0), 3);
        x.unrule();
        due.is("then one comes by the other", () -> x.proof(0, 1, 0, 0), 1);
        due.is("not that one by it", () -> x.proof(0, 0, 0, 0), 2);
        due.is("though that is a way", () -> x.ways(0, 0, 0), 2);
        StrataHouse y = Stories.relationsOf(1, 1, 0);
        y.rule(1, 20, 0);
        y.literal(0, 20, 0, false);
        y.literal(2, 0, 0, true);
        y.rule(0, 1, 0);
        y.rule(0, 0, 0);
        y.literal(0, 1, 0, false);
        due.is("rank 2 below is no lower than 1", () -> y.rank(0, 0, 0) * 10 + y.rank(1, 0, 0), 21);
        due.is("but of a layer below", () -> y.proof(1, 0, 0, 0), 0);
    }

    private void proofTakesTheLeastRule() {
        due.sentence("Terms 2: the one of the least rule");
        StrataHouse x = Stories.relationsOf(1, 1);
        for (int i = 0; i < 16; i++) {
            x.rule(1, 0, 0);
            x.literal(0, 11 - i % 12, 0, false);
        }
        x.give(0, 8, 0);
        due.is("by rules 3 and 15", () -> x.proof(1, 0, 0, 0), 3);
        x.give(0, 0, 0);
        due.is("not by the least fact", () -> x.proof(1, 0, 0, 0), 3);
        x.take(0, 8, 0);
        due.is("by rule 11", () -> x.proof(1, 0, 0, 0), 11);
        x.unrule();
        x.rule(1, 0, 0);
        x.take(0, 0, 0);
        due.is("by the sixteenth alone", () -> x.proof(1, 0, 0, 0), 15);
        x.give(0, 11, 0);
        due.is("by the first", () -> x.proof(1, 0, 0, 0), 0);
    }

    /** All four variables are open; what takes the least of one away leaves the next. */
    private void proofTakesTheLeastValues() {
        due.sentence("Terms 2: the least values of the variables 20, 21, 22, 23, one after the other");
        StrataHouse x = Stories.relationsOf(2, 2, 0);
        x.rule(2, 0, 0);
        x.literal(1, 23, 22, false);
        x.literal(0, 21, 20, false);
        x.give(0, 11, 0);
        x.give(0, 0, 11);
        x.give(1, 11, 0);
        x.give(1, 0, 11);
        proofIs(x, 0, 11, 0, 11);
        x.take(0, 11, 0);
        proofIs(x, 11, 0, 0, 11);
        x.give(0, 3, 11);
        proofIs(x, 11, 0, 0, 11);
        x.give(1, 10, 0);
        proofIs(x, 11, 0, 0, 10);
        x.take(1, 10, 0);
        x.take(1, 11, 0);
        proofIs(x, 11, 0, 11, 0);
        x.literal(0, 23, 21, true);
        x.give(0, 0, 0);
        proofIs(x, 11, 3, 11, 0);
    }

    private void proofIs(StrataHouse x, int... values) {
        for (int i = 0; i < 4; i++) {
            int what = i + 1;
            due.is("the value of " + (20 + i), () -> x.proof(2, 0, 0, what), values[i]);
        }
    }
}
