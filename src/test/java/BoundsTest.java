import java.util.NoSuchElementException;

/** Every bound that the document names: the numbers just inside it, and those just outside and far off. */
public final class BoundsTest {
    private static final Class<IllegalArgumentException> ARGUMENT = IllegalArgumentException.class;
    private static final Class<IllegalStateException> STATE = IllegalStateException.class;
    private static final Class<UnsupportedOperationException> FULL = UnsupportedOperationException.class;
    private static final Class<NoSuchElementException> MISSING = NoSuchElementException.class;

    // Those far off would be good ones if a shift, a product by 12 or a cast wrapped them round.
    private static final int[] FAR_OFF = {32, 43, 52, 55, -12, -9, 256, 276, 65536, 65556, 1 << 28, 357913942,
        -357913942, Integer.MIN_VALUE, Integer.MIN_VALUE + 1, Integer.MAX_VALUE - 1, Integer.MAX_VALUE};
    private static final int[] NO_CONSTANTS = {-1, 12, 13, 18, 19, 20, 21, 22, 23, 24};
    private static final int[] NO_TERMS = {-1, 12, 13, 14, 15, 16, 17, 18, 19, 24, 25};

    private final Due due = new Due();

    public static void main(String[] args) {
        BoundsTest test = new BoundsTest();
        test.placesOfARelation();
        test.eightRelations();
        test.noSuchRelation();
        test.constants();
        test.constantsAtBothEnds();
        test.terms();
        test.variablesAtBothEnds();
        test.placesThatTheRelationHasnt();
        test.sixteenRules();
        test.fourLiterals();
        test.whatOfAProof();
        test.mostFacts();
        test.mostWays();
        test.mostRounds();
        test.mostCalls();
        test.due.end();
    }

    private static String text(int relation, int a, int b) {
        return "(" + relation + ", " + a + ", " + b + ")";
    }

    private void placesOfARelation() {
        due.sentence("Promise 3: IllegalArgumentException if they are not 0 .. 2");
        StrataHouse x = new StrataHouse();
        for (int wrong : new int[] {-1, 3, 4, -2}) {
            due.raises("relation(" + wrong + ")", () -> x.relation(wrong), ARGUMENT);
        }
        for (int wrong : FAR_OFF) {
            due.raises("relation(" + wrong + ")", () -> x.relation(wrong), ARGUMENT);
        }
        int[] facts = {1, 12, 144};
        for (int places = 0; places <= 2; places++) {
            int number = places;
            due.is("relation(" + number + ")", () -> x.relation(number), number);
        }
        for (int i = 0; i < 144; i++) {
            x.give(0, i / 12, i % 12);
            x.give(1, i / 12, i % 12);
            x.give(2, i / 12, i % 12);
        }
        for (int i = 0; i <= 2; i++) {
            int number = i;
            due.is("all facts of " + i + " places", () -> x.count(number), facts[i]);
        }
    }

    private void eightRelations() {
        for (int places = 0; places <= 2; places++) {
            int many = places;
            due.sentence("Promise 3: A relation of so many places: its number.");
            StrataHouse x = new StrataHouse();
            for (int i = 0; i < 8; i++) {
                due.is("relation(" + many + ")", () -> x.relation(many), i);
            }
            due.sentence("Promise 3: UnsupportedOperationException if there are eight.");
            for (int i = 0; i < 3; i++) {
                int more = i;
                due.raises("the ninth", () -> x.relation(more), FULL);
            }
            due.raises("the ninth is none", () -> x.count(8), ARGUMENT);
            due.is("the eighth is there", () -> x.count(7), 0);
            due.is("and takes facts", () -> Due.bit(x.give(7, 11, 11)), 1);
            due.is("which hold", () -> x.count(7), 1);
            due.is("the seventh has none of them", () -> x.count(6), 0);
        }
    }

    private void noSuchRelation() {
        for (int made = 0; made <= 8; made++) {
            StrataHouse x = new StrataHouse();
            for (int i = 0; i < made; i++) {
                x.relation(i % 3);
            }
            refuseRelation(x, -1);
            refuseRelation(x, made);
            refuseRelation(x, 8);
            for (int wrong : FAR_OFF) {
                refuseRelation(x, wrong);
            }
            if (made > 0) {
                takeRelation(x, 0);
                takeRelation(x, made - 1);
                refuseLiteralOf(x, -1);
                refuseLiteralOf(x, made);
            }
        }
    }

    private void refuseRelation(StrataHouse x, int wrong) {
        due.sentence("Promise 10: IllegalArgumentException if there is no such relation");
        due.raises("layer(" + wrong + ")", () -> x.layer(wrong), ARGUMENT);
        due.sentence("Promise 11: Exceptions as for layer().");
        due.raises("count(" + wrong + ")", () -> x.count(wrong), ARGUMENT);
        due.sentence("Promise 6: IllegalArgumentException if there is no such relation");
        due.raises("rule of " + wrong, () -> x.rule(wrong, 0, 0), ARGUMENT);
        refuseFact(x, wrong, 0, 0);
    }

    private void takeRelation(StrataHouse x, int right) {
        due.sentence("Terms 1: RELATIONS, numbered from 0 as they are made");
        due.is("layer(" + right + ")", () -> x.layer(right), 0);
        due.is("count(" + right + ")", () -> x.count(right), 0);
        takeFact(x, right, 0, 0);
        due.is("rule of " + right, () -> Math.min(x.rule(right, 0, 0), 0), 0);
        due.is("literal of " + right, () -> x.literal(right, 0, 0, false), 1);
    }

    private void refuseLiteralOf(StrataHouse x, int wrong) {
        due.sentence("Promise 7: IllegalArgumentException as for rule()");
        due.raises("positive literal of " + wrong, () -> x.literal(wrong, 0, 0, false), ARGUMENT);
        due.raises("negated literal of " + wrong, () -> x.literal(wrong, 0, 0, true), ARGUMENT);
    }

    private void refuseFact(StrataHouse x, int r, int a, int b) {
        due.sentence("Promise 4: IllegalArgumentException if there is no such relation, "
                + "or a place's number is no constant.");
        due.raises("give" + text(r, a, b), () -> Due.bit(x.give(r, a, b)), ARGUMENT);
        due.sentence("Promise 5: Exceptions as for give().");
        due.raises("take" + text(r, a, b), () -> Due.bit(x.take(r, a, b)), ARGUMENT);
        due.sentence("Promise 12: IllegalArgumentException as for give()");
        due.raises("rank" + text(r, a, b), () -> x.rank(r, a, b), ARGUMENT);
        due.sentence("Promise 13: Exceptions as for rank().");
        due.raises("ways" + text(r, a, b), () -> x.ways(r, a, b), ARGUMENT);
        due.sentence("Promise 14: Exceptions as for rank()");
        due.raises("proof" + text(r, a, b), () -> x.proof(r, a, b, 0), ARGUMENT);
    }

    /** A fact that isn't given and follows from nothing; it is left so. */
    private void takeFact(StrataHouse x, int r, int a, int b) {
        due.sentence("Terms 1: CONSTANTS are 0 .. 11.");
        due.is("rank" + text(r, a, b), () -> x.rank(r, a, b), StrataHouse.NONE);
        due.is("ways" + text(r, a, b), () -> x.ways(r, a, b), 0);
        due.raises("proof" + text(r, a, b), () -> x.proof(r, a, b, 0), MISSING);
        due.is("take" + text(r, a, b), () -> Due.bit(x.take(r, a, b)), 0);
        due.is("give" + text(r, a, b), () -> Due.bit(x.give(r, a, b)), 1);
        due.is("give again" + text(r, a, b), () -> Due.bit(x.give(r, a, b)), 0);
        due.is("rank when given" + text(r, a, b), () -> x.rank(r, a, b), 0);
        due.is("take when given" + text(r, a, b), () -> Due.bit(x.take(r, a, b)), 1);
        due.is("take again" + text(r, a, b), () -> Due.bit(x.take(r, a, b)), 0);
    }

    private void constants() {
        for (int wrong : NO_CONSTANTS) {
            refuseConstant(wrong);
        }
        for (int wrong : FAR_OFF) {
            refuseConstant(wrong);
        }
        for (int right = 0; right <= 11; right++) {
            StrataHouse x = Stories.relationsOf(2, 1);
            takeFact(x, 0, right, 5);
            takeFact(x, 0, 5, right);
            takeFact(x, 1, right, 5);
        }
    }

    private void refuseConstant(int wrong) {
        StrataHouse x = Stories.relationsOf(2, 1);
        refuseFact(x, 0, wrong, 5);
        refuseFact(x, 0, 5, wrong);
        refuseFact(x, 0, wrong, wrong);
        refuseFact(x, 1, wrong, 5);
        due.is("nothing came of it", () -> x.count(0) + x.count(1), 0);
    }

    /** None of the four corners is taken for another. */
    private void constantsAtBothEnds() {
        due.sentence("Promise 4: whether it is new");
        int[][] corners = {{0, 0}, {0, 11}, {11, 0}, {11, 11}};
        StrataHouse x = Stories.relationsOf(2, 2, 2);
        for (int i = 0; i < 4; i++) {
            int[] corner = corners[i];
            due.is("give of a corner", () -> Due.bit(x.give(1, corner[0], corner[1])), 1);
            due.is("count", () -> x.count(1), i + 1);
            due.is("the relations beside it", () -> x.count(0) + x.count(2), 0);
        }
        due.is("the middle", () -> x.rank(1, 5, 5), StrataHouse.NONE);
        due.is("beside a corner", () -> x.rank(1, 0, 10), StrataHouse.NONE);
        due.sentence("Promise 5: A given fact goes: whether it was one.");
        for (int i = 0; i < 4; i++) {
            int[] corner = corners[i];
            due.is("take of a corner", () -> Due.bit(x.take(1, corner[0], corner[1])), 1);
            due.is("its rank", () -> x.rank(1, corner[0], corner[1]), StrataHouse.NONE);
            due.is("count", () -> x.count(1), 3 - i);
        }
    }

    private void terms() {
        for (int wrong : NO_TERMS) {
            refuseTerm(wrong);
        }
        for (int wrong : FAR_OFF) {
            refuseTerm(wrong);
        }
        due.sentence("Terms 1: a TERM: a constant, or a VARIABLE, 20 .. 23.");
        for (int right : new int[] {0, 1, 10, 11, 20, 21, 22, 23}) {
            StrataHouse x = Stories.relationsOf(2, 1);
            due.is("head's first " + right, () -> x.rule(0, right, 5), 0);
            due.is("head's second " + right, () -> x.rule(0, 5, right), 1);
            due.is("head of one place " + right, () -> x.rule(1, right, 5), 2);
            due.is("literal's first " + right, () -> x.literal(0, right, 5, false), 1);
            due.is("literal's second " + right, () -> x.literal(0, 5, right, true), 2);
            due.is("literal of one place " + right, () -> x.literal(1, right, 5, false), 3);
            due.is("both places " + right, () -> x.literal(0, right, right, true), 4);
        }
    }

    private void refuseTerm(int wrong) {
        StrataHouse x = Stories.relationsOf(2, 1);
        due.sentence("Promise 6: IllegalArgumentException if there is no such relation, "
                + "or a place's number is no term");
        due.raises("head's first " + wrong, () -> x.rule(0, wrong, 5), ARGUMENT);
        due.raises("head's second " + wrong, () -> x.rule(0, 20, wrong), ARGUMENT);
        due.raises("head of one place " + wrong, () -> x.rule(1, wrong, 5), ARGUMENT);
        due.is("no rule came of it", () -> x.rule(1, 7, 0), 0);
        due.sentence("Promise 7: IllegalArgumentException as for rule()");
        for (boolean negated : new boolean[] {false, true}) {
            due.raises("literal's first " + wrong, () -> x.literal(0, wrong, 5, negated), ARGUMENT);
            due.raises("literal's second " + wrong, () -> x.literal(0, 20, wrong, negated), ARGUMENT);
            due.raises("literal of one place " + wrong, () -> x.literal(1, wrong, 5, negated), ARGUMENT);
        }
        due.is("the rule has no literal", () -> x.count(1), 1);
    }

    /** Each variable in each place takes 0 and 11, and is told apart from the others. */
    private void variablesAtBothEnds() {
        due.sentence("Terms 2: An INSTANCE of a rule is a constant for each variable that it has.");
        for (int variable = 20; variable <= 23; variable++) {
            int other = 43 - variable;
            int told = variable - 19;
            int toldOther = other - 19;
            StrataHouse x = Stories.relationsOf(2, 2);
            x.give(0, 0, 11);
            x.give(0, 11, 0);
            x.rule(1, variable, other);
            x.literal(0, other, variable, false);
            due.is("both come", () -> x.count(1), 2);
            due.is("its value 0", () -> x.proof(1, 0, 11, told), 0);
            due.is("the other's value 11", () -> x.proof(1, 0, 11, toldOther), 11);
            due.is("its value 11", () -> x.proof(1, 11, 0, told), 11);
            due.is("the other's value 0", () -> x.proof(1, 11, 0, toldOther), 0);
            for (int i = 1; i <= 4; i++) {
                int none = i;
                if (i != told && i != toldOther) {
                    due.is("one that the rule hasn't", () -> x.proof(1, 0, 11, none), StrataHouse.NONE);
                }
            }
        }
    }

    private void placesThatTheRelationHasnt() {
        due.sentence("Promise 4: places that the relation hasn't don't matter");
        for (int any : FAR_OFF) {
            freePlaces(any);
        }
        for (int any : new int[] {-1, 0, 11, 12, 19, 20, 23, 24}) {
            freePlaces(any);
        }
        due.sentence("Terms 1: Head and literals are a relation and for each of its places a TERM");
        StrataHouse x = Stories.relationsOf(0, 1, 2);
        x.rule(0, 20, 21);
        x.literal(1, 22, 23, false);
        x.literal(0, 20, 21, false);
        x.rule(0, 20, 21);
        x.literal(1, 22, 23, false);
        x.give(1, 4, 5);
        x.give(1, 6, 7);
        due.is("variables in such places need no literal", () -> x.fault(), StrataHouse.NONE);
        due.is("they have no instances", () -> x.ways(0, 8, 9), 4);
        due.is("proof's rule", () -> x.proof(0, 8, 9, 0), 1);
        due.is("proof's 20", () -> x.proof(0, 8, 9, 1), StrataHouse.NONE);
        due.is("proof's 21", () -> x.proof(0, 8, 9, 2), StrataHouse.NONE);
        due.is("proof's 22", () -> x.proof(0, 8, 9, 3), 4);
        due.is("proof's 23", () -> x.proof(0, 8, 9, 4), StrataHouse.NONE);
        x.rule(2, 22, 23);
        x.literal(1, 22, 23, false);
        due.is("such a place makes no variable safe", () -> x.fault(), 2);
    }

    private void freePlaces(int any) {
        StrataHouse x = Stories.relationsOf(0, 1, 0, 1);
        due.is("give of no place, " + any, () -> Due.bit(x.give(0, any, any)), 1);
        due.is("the same with others", () -> Due.bit(x.give(0, 3, 4)), 0);
        due.is("give of one place, " + any, () -> Due.bit(x.give(1, 11, any)), 1);
        due.is("the same with another", () -> Due.bit(x.give(1, 11, 4)), 0);
        due.is("rank of no place, " + any, () -> x.rank(0, any, any), 0);
        due.is("rank of one place, " + any, () -> x.rank(1, 11, any), 0);
        due.is("head of no place, " + any, () -> x.rule(2, any, any), 0);
        due.is("literal of one place, " + any, () -> x.literal(1, 11, any, false), 1);
        due.is("negated literal of one place, " + any, () -> x.literal(1, 10, any, true), 2);
        due.is("literal of no place, " + any, () -> x.literal(0, any, any, false), 3);
        due.is("head of one place, " + any, () -> x.rule(3, 11, any), 1);
        due.is("no fault", () -> x.fault(), StrataHouse.NONE);
        due.is("ways of no place, " + any, () -> x.ways(2, any, any), 1);
        due.is("proof of no place, " + any, () -> x.proof(2, any, any, 0), 0);
        due.is("ways of one place, " + any, () -> x.ways(3, 11, any), 1);
        due.is("proof of one place, " + any, () -> x.proof(3, 11, any, 0), 1);
        due.is("counts", () -> x.count(0) + x.count(1) + x.count(2) + x.count(3), 4);
        due.is("take of no place, " + any, () -> Due.bit(x.take(0, any, any)), 1);
        due.is("take of one place, " + any, () -> Due.bit(x.take(1, 11, any)), 1);
        due.is("gone", () -> x.count(0) + x.count(1) + x.count(2), 0);
    }

    private void sixteenRules() {
        due.sentence("Promise 6: A rule with this head, without literals: its number.");
        StrataHouse x = Stories.relationsOf(2, 1, 0);
        for (int i = 0; i < 16; i++) {
            int second = i % 12;
            due.is("rule", () -> x.rule(0, 3, second), i);
            due.is("its first literal", () -> x.literal(2, 0, 0, true), 1);
        }
        due.sentence("Promise 6: UnsupportedOperationException if there are sixteen.");
        due.raises("the seventeenth", () -> x.rule(0, 4, 4), FULL);
        due.raises("the seventeenth, of one place", () -> x.rule(1, 20, 0), FULL);
        due.is("all sixteen count", () -> x.count(0), 12);
        due.is("ways by two of them", () -> x.ways(0, 3, 3), 2);
        due.is("ways by one of them", () -> x.ways(0, 3, 11), 1);
        due.is("the latest gets a literal", () -> x.literal(1, 0, 0, true), 2);
        x.give(1, 0, 0);
        due.is("and that holds it back", () -> x.ways(0, 3, 3), 1);
        x.unrule();
        due.is("one is free again", () -> x.rule(0, 4, 4), 15);
        due.raises("but no more", () -> x.rule(0, 4, 4), FULL);
        x.clear();
        x.relation(2);
        due.is("all are free again", () -> x.rule(0, 4, 4), 0);
    }

    private void fourLiterals() {
        StrataHouse x = Stories.relationsOf(2, 1, 0);
        for (int rule = 0; rule < 16; rule++) {
            due.sentence("Promise 7: A literal more for the latest rule: how many it has.");
            x.rule(1, rule % 12, 0);
            for (int i = 1; i <= 4; i++) {
                boolean negated = i % 2 == 0;
                due.is("literal of rule " + rule, () -> x.literal(negated ? 2 : 0, 1, 2, negated), i);
            }
            due.sentence("Promise 7: UnsupportedOperationException if it has four.");
            due.raises("the fifth, positive", () -> x.literal(0, 1, 2, false), FULL);
            due.raises("the fifth, negated", () -> x.literal(2, 0, 0, true), FULL);
        }
        due.is("none holds yet", () -> x.count(1), 0);
        x.give(0, 1, 2);
        due.is("all hold", () -> x.count(1), 12);
        due.sentence("Promise 7: IllegalStateException if there is no rule");
        StrataHouse y = new StrataHouse();
        due.raises("on a new object", () -> y.literal(0, 0, 0, false), STATE);
        y.relation(1);
        due.raises("with a relation", () -> y.literal(0, 0, 0, true), STATE);
        y.rule(0, 0, 0);
        y.unrule();
        due.raises("behind unrule", () -> y.literal(0, 0, 0, false), STATE);
        y.rule(0, 0, 0);
        y.clear();
        y.relation(1);
        due.raises("behind clear", () -> y.literal(0, 0, 0, false), STATE);
    }

    private void whatOfAProof() {
        due.sentence("Promise 14: IllegalArgumentException also for another what");
        StrataHouse x = Stories.told(Stories::full);
        int[] proof = {15, 0, 1, 2, 3};
        due.is("rank", () -> x.rank(7, 0, 3), 1);
        for (int wrong : new int[] {-1, 5, 6, 20, 23}) {
            due.raises("what " + wrong, () -> x.proof(7, 0, 3, wrong), ARGUMENT);
            due.raises("what " + wrong + " of none", () -> x.proof(7, 8, 8, wrong), ARGUMENT);
            due.raises("what " + wrong + " of a given one", () -> x.proof(7, 11, 0, wrong), ARGUMENT);
        }
        for (int wrong : FAR_OFF) {
            due.raises("what " + wrong, () -> x.proof(7, 0, 3, wrong), ARGUMENT);
        }
        due.sentence("Promise 14: 0 the rule, 1 .. 4 the values of 20 .. 23 (NONE of one that the rule hasn't).");
        for (int i = 0; i <= 4; i++) {
            int what = i;
            due.is("what " + i, () -> x.proof(7, 0, 3, what), proof[i]);
            due.is("what " + i + " without variables", () -> x.proof(7, 11, 11, what),
                    what == 0 ? 12 : StrataHouse.NONE);
        }
        due.sentence("Promise 14: NoSuchElementException if it doesn't hold, or is given.");
        for (int i = 0; i <= 4; i++) {
            int what = i;
            due.raises("what " + i + " of none", () -> x.proof(7, 8, 8, what), MISSING);
            due.raises("what " + i + " of a given one", () -> x.proof(7, 11, 0, what), MISSING);
        }
    }

    private void mostFacts() {
        due.sentence("Promise 11: How many facts of a relation hold.");
        StrataHouse x = Stories.relationsOf(2, 2, 2, 2, 2, 2, 2, 2);
        due.is("none", () -> x.count(0), 0);
        for (int i = 0; i < 144; i++) {
            x.give(0, i / 12, i % 12);
        }
        for (int i = 1; i < 8; i++) {
            x.rule(i, 20, 21);
            x.literal(i - 1, 21, 20, false);
        }
        for (int i = 0; i < 8; i++) {
            int number = i;
            due.is("all of relation " + i, () -> x.count(number), 144);
            due.is("rank of the first", () -> x.rank(number, 0, 0), number);
            due.is("rank of the last", () -> x.rank(number, 11, 11), number);
        }
        due.is("all are given already", () -> Due.bit(x.give(0, 11, 11)), 0);
        due.is("one goes", () -> Due.bit(x.take(0, 11, 0)), 1);
        due.is("its mirror goes too", () -> x.rank(7, 0, 11), StrataHouse.NONE);
        due.is("the others stay", () -> x.count(7), 143);
    }

    private void mostWays() {
        due.sentence("Promise 13: In how many ways it follows.");
        StrataHouse x = Stories.relationsOf(1, 0);
        for (int i = 0; i < 12; i++) {
            x.give(0, i, 0);
        }
        due.is("without rules", () -> x.ways(1, 0, 0), 0);
        for (int rule = 1; rule <= 16; rule++) {
            x.rule(1, 0, 0);
            for (int variable = 20; variable <= 23; variable++) {
                x.literal(0, variable, 0, false);
            }
            due.is("by " + rule + " rules with all instances", () -> x.ways(1, 0, 0), rule * 20736L);
        }
        due.is("of a given one too", () -> Due.bit(x.give(1, 0, 0)) * 1000000 + x.ways(1, 0, 0), 1331776);
        due.is("of one without rules", () -> x.ways(0, 0, 0), 0);
    }

    /** Relations 1 to 5 count from 0 to 143 in twelves, one behind the other: a fact a round. */
    private void mostRounds() {
        due.sentence("Terms 2: until a round brings none");
        StrataHouse x = Stories.relationsOf(2, 2, 2, 2, 2, 2);
        for (int i = 0; i < 11; i++) {
            x.give(0, i, i + 1);
        }
        x.rule(1, 0, 0);
        for (int i = 1; i <= 5; i++) {
            x.rule(i, 20, 22);
            x.literal(i, 20, 21, false);
            x.literal(0, 21, 22, false);
            x.rule(i, 22, 0);
            x.literal(i, 20, 11, false);
            x.literal(0, 20, 22, false);
            if (i < 5) {
                x.rule(i + 1, 0, 0);
                x.literal(i, 11, 11, false);
            }
        }
        for (int i = 1; i <= 5; i++) {
            int number = i;
            due.is("first of " + i, () -> x.rank(number, 0, 0), 144 * (number - 1) + 1);
            due.is("last of " + i, () -> x.rank(number, 11, 11), 144 * number);
        }
        due.is("all hold", () -> x.count(5), 144);
        due.is("the hundredth", () -> x.rank(1, 8, 3), 100);
        due.is("the last one's rule", () -> x.proof(5, 11, 11, 0), 13);
        due.is("the last one's 21", () -> x.proof(5, 11, 11, 2), 10);
        due.is("the rule of the first of the last relation", () -> x.proof(5, 0, 0, 0), 12);
    }

    private void mostCalls() {
        due.sentence("What it is: An object is used for at most 512 calls after it has been made");
        StrataHouse x = Stories.relationsOf(2, 2);
        x.rule(1, 20, 21);
        x.literal(0, 20, 21, false);
        due.is("call 5", () -> x.fault(), StrataHouse.NONE);
        for (int call = 6; call <= 511; call++) {
            int from = call / 3 % 12;
            switch (call % 3) {
                case 0 -> due.is("give, call " + call, () -> Due.bit(x.give(0, from, 1)), 1);
                case 1 -> due.is("rank, call " + call, () -> x.rank(1, from, 1), 1);
                default -> due.is("take, call " + call, () -> Due.bit(x.take(0, from, 1)), 1);
            }
        }
        due.is("call 512", () -> x.count(1), 1);
    }
}
