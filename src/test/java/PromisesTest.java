import java.util.NoSuchElementException;

/** The promises one by one: ordinary inputs, the edges that the document names, and wrong inputs. */
public final class PromisesTest {
    private static final Class<IllegalArgumentException> ARGUMENT = IllegalArgumentException.class;
    private static final Class<IllegalStateException> STATE = IllegalStateException.class;
    private static final Class<UnsupportedOperationException> FULL = UnsupportedOperationException.class;
    private static final Class<NoSuchElementException> MISSING = NoSuchElementException.class;
    private static final int[] NO_CONSTANTS = {-1, 12, 19, 20, 23, Integer.MIN_VALUE, Integer.MAX_VALUE};
    private static final int[] NO_TERMS = {-1, 12, 19, 24, Integer.MIN_VALUE, Integer.MAX_VALUE};

    private final Due due = new Due();

    public static void main(String[] args) {
        PromisesTest test = new PromisesTest();
        test.newObject();
        test.clear();
        test.relation();
        test.give();
        test.take();
        test.placesThatDontMatter();
        test.rule();
        test.literal();
        test.unrule();
        test.faultUnsafe();
        test.faultNotLayered();
        test.layer();
        test.count();
        test.rank();
        test.rankOfFirstAndLast();
        test.rankOverLayers();
        test.ways();
        test.proof();
        test.proofChoosesLeast();
        test.proofOverLayers();
        test.wrongFacts();
        test.faultComesBehindArguments();
        test.throwingChangesNothing();
        test.due.end();
    }

    private static StrataHouse relations() {
        return Stories.told(Stories::relations);
    }

    private static StrataHouse chain() {
        return Stories.told(Stories::chain);
    }

    private static Due.Call unrule(StrataHouse x) {
        return () -> {
            x.unrule();
            return 0;
        };
    }

    private void newObject() {
        StrataHouse x = new StrataHouse();
        due.is("new: fault", () -> x.fault(), StrataHouse.NONE);
        due.raises("new: layer(0)", () -> x.layer(0), ARGUMENT);
        due.raises("new: count(0)", () -> x.count(0), ARGUMENT);
        due.raises("new: give", () -> Due.bit(x.give(0, 0, 0)), ARGUMENT);
        due.raises("new: rule", () -> x.rule(0, 0, 0), ARGUMENT);
        due.raises("new: unrule", unrule(x), STATE);
        StrataHouse y = new StrataHouse();
        y.relation(1);
        due.raises("objects share nothing", () -> x.count(0), ARGUMENT);
    }

    private void clear() {
        StrataHouse x = chain();
        due.is("before clear", () -> x.count(1), 15);
        x.clear();
        due.is("clear: fault", () -> x.fault(), StrataHouse.NONE);
        due.raises("clear: relations go", () -> x.count(0), ARGUMENT);
        due.raises("clear: rules go", unrule(x), STATE);
        due.is("clear: numbers begin anew", () -> x.relation(2), 0);
        due.is("clear: facts go", () -> x.count(0), 0);
        due.is("clear: given facts go", () -> Due.bit(x.give(0, 0, 1)), 1);
        due.is("clear: rule numbers begin anew", () -> x.rule(0, 5, 5), 0);
        due.is("clear: literals go", () -> x.count(0), 2);
        x.rule(0, 20, 20);
        due.is("fault before clear", () -> x.fault(), 1);
        x.clear();
        due.is("clear: the fault goes", () -> x.fault(), StrataHouse.NONE);
        x.clear();
        due.is("clear twice", () -> x.relation(0), 0);
    }

    private void relation() {
        StrataHouse x = new StrataHouse();
        for (int wrong : new int[] {-1, 3, Integer.MIN_VALUE, Integer.MAX_VALUE}) {
            due.raises("relation(" + wrong + ")", () -> x.relation(wrong), ARGUMENT);
        }
        for (int i = 0; i < 8; i++) {
            int number = i;
            due.raises("not made yet", () -> x.count(number), ARGUMENT);
            due.is("relation " + i, () -> x.relation(number % 3), i);
            due.is("new relation is empty", () -> x.count(number), 0);
            due.is("new relation's layer", () -> x.layer(number), 0);
        }
        due.raises("a ninth", () -> x.relation(1), FULL);
        due.raises("a ninth, wrong", () -> x.relation(3), ARGUMENT);
        due.raises("the ninth isn't there", () -> x.count(8), ARGUMENT);
        due.is("the eighth is", () -> x.count(7), 0);
    }

    private void give() {
        StrataHouse x = relations();
        due.is("give", () -> Due.bit(x.give(0, 3, 11)), 1);
        due.is("give again", () -> Due.bit(x.give(0, 3, 11)), 0);
        due.is("give turned round", () -> Due.bit(x.give(0, 11, 3)), 1);
        due.is("give to another relation", () -> Due.bit(x.give(1, 3, 11)), 1);
        due.is("count 0", () -> x.count(0), 2);
        due.is("count 1", () -> x.count(1), 1);
        due.is("rank of a given one", () -> x.rank(0, 3, 11), 0);
        due.is("rank of none", () -> x.rank(0, 3, 10), StrataHouse.NONE);
        StrataHouse y = chain();
        due.is("follows before", () -> y.rank(1, 0, 2), 2);
        due.is("one that follows is new as a given one", () -> Due.bit(y.give(1, 0, 2)), 1);
        due.is("and has rank 0 then", () -> y.rank(1, 0, 2), 0);
        due.is("what follows from it follows sooner", () -> y.rank(1, 0, 3), 1);
    }

    private void take() {
        StrataHouse x = chain();
        due.is("take one that isn't", () -> Due.bit(x.take(0, 7, 7)), 0);
        due.is("take one that follows only", () -> Due.bit(x.take(1, 0, 1)), 0);
        due.is("it still holds", () -> x.rank(1, 0, 1), 1);
        due.is("count before", () -> x.count(1), 15);
        due.is("take", () -> Due.bit(x.take(0, 2, 3)), 1);
        due.is("take again", () -> Due.bit(x.take(0, 2, 3)), 0);
        due.is("what followed goes too", () -> x.count(1), 6);
        x.give(1, 0, 1);
        due.is("given and following", () -> x.rank(1, 0, 1), 0);
        due.is("take a given one that follows", () -> Due.bit(x.take(1, 0, 1)), 1);
        due.is("it follows again", () -> x.rank(1, 0, 1), 1);
    }

    private void placesThatDontMatter() {
        StrataHouse x = relations();
        due.is("one place", () -> Due.bit(x.give(2, 4, -7)), 1);
        due.is("one place, the same", () -> Due.bit(x.give(2, 4, 11)), 0);
        due.is("one place, rank", () -> x.rank(2, 4, 99), 0);
        due.is("no place", () -> Due.bit(x.give(3, 99, 99)), 1);
        due.is("no place, the same", () -> Due.bit(x.give(3, 1, 2)), 0);
        due.is("no place, count", () -> x.count(3), 1);
        due.is("no place, take", () -> Due.bit(x.take(3, -1, Integer.MAX_VALUE)), 1);
        due.is("no place, gone", () -> x.count(3), 0);
        due.is("a head's other places", () -> x.rule(3, 24, 19), 0);
        due.is("a literal's other place", () -> x.literal(2, 4, 24, false), 1);
        due.is("no variable stands there", () -> x.fault(), StrataHouse.NONE);
        due.is("it follows", () -> x.rank(3, 5, 6), 1);
        due.is("its ways", () -> x.ways(3, -5, 77), 1);
        due.is("its proof", () -> x.proof(3, -5, 77, 0), 0);
        x.rule(3, 20, 21);
        due.is("a variable where no place is", () -> x.fault(), StrataHouse.NONE);
        x.rule(2, 20, 0);
        x.literal(2, 1, 20, false);
        due.is("such a one binds nothing", () -> x.fault(), 2);
    }

    private void rule() {
        StrataHouse x = relations();
        for (int wrong : NO_TERMS) {
            due.raises("rule with first " + wrong, () -> x.rule(0, wrong, 0), ARGUMENT);
            due.raises("rule with second " + wrong, () -> x.rule(0, 20, wrong), ARGUMENT);
            due.raises("rule with one place " + wrong, () -> x.rule(2, wrong, 0), ARGUMENT);
        }
        due.raises("rule of relation -1", () -> x.rule(-1, 0, 0), ARGUMENT);
        due.raises("rule of relation 4", () -> x.rule(4, 0, 0), ARGUMENT);
        due.is("nothing was made", () -> x.fault(), StrataHouse.NONE);
        for (int i = 0; i < 16; i++) {
            int number = i;
            due.is("rule " + i, () -> x.rule(0, number % 12, number % 7), i);
        }
        due.raises("a seventeenth", () -> x.rule(0, 0, 0), FULL);
        due.raises("a seventeenth, wrong", () -> x.rule(0, 12, 0), ARGUMENT);
        due.is("rules without literals bring their heads", () -> x.count(0), 16);
        due.is("in round 1", () -> x.rank(0, 8, 1), 1);
    }

    private void literal() {
        StrataHouse x = relations();
        due.raises("literal without a rule", () -> x.literal(0, 0, 0, false), STATE);
        due.raises("wrong literal without a rule", () -> x.literal(9, 99, 99, false), STATE);
        x.rule(2, 20, 0);
        for (int wrong : NO_TERMS) {
            due.raises("literal with first " + wrong, () -> x.literal(0, wrong, 0, false), ARGUMENT);
            due.raises("literal with second " + wrong, () -> x.literal(0, 0, wrong, true), ARGUMENT);
            due.raises("literal with one place " + wrong, () -> x.literal(2, wrong, 0, true), ARGUMENT);
        }
        due.raises("literal of relation -1", () -> x.literal(-1, 0, 0, false), ARGUMENT);
        due.raises("literal of relation 4", () -> x.literal(4, 0, 0, false), ARGUMENT);
        due.is("literal 1", () -> x.literal(0, 20, 21, false), 1);
        due.is("literal 2", () -> x.literal(0, 21, 22, false), 2);
        due.is("literal 3", () -> x.literal(0, 22, 23, false), 3);
        due.is("literal 4", () -> x.literal(1, 23, 20, true), 4);
        due.raises("literal 5", () -> x.literal(0, 20, 21, false), FULL);
        due.raises("literal 5, wrong", () -> x.literal(0, 20, 24, false), ARGUMENT);
        for (int i = 0; i < 6; i++) {
            x.give(0, i, i + 1);
        }
        due.is("all literals count", () -> x.count(2), 4);
        x.give(1, 5, 2);
        due.is("the negated one too", () -> x.count(2), 3);
        due.is("which", () -> x.rank(2, 2, 0), StrataHouse.NONE);
        x.rule(3, 0, 0);
        due.is("the latest rule gets it", () -> x.literal(2, 2, 0, false), 1);
        due.is("it holds back", () -> x.count(3), 0);
    }

    private void unrule() {
        StrataHouse x = chain();
        due.is("before", () -> x.count(1), 15);
        due.is("unrule", unrule(x), 0);
        due.is("after", () -> x.count(1), 5);
        due.is("the one before is the latest", () -> x.literal(0, 21, 22, false), 2);
        due.is("its literals are kept", () -> x.count(1), 4);
        due.is("the number comes again", () -> x.rule(2, 20, 0), 1);
        due.is("without the old literals", () -> x.fault(), 1);
        due.is("literals from 1 on", () -> x.literal(0, 20, 20, false), 1);
        due.is("no fault", () -> x.fault(), StrataHouse.NONE);
        x.unrule();
        x.unrule();
        due.raises("none is left", unrule(x), STATE);
        due.is("facts are kept", () -> x.count(0), 5);
        due.is("nothing follows", () -> x.count(1), 0);
    }

    private void faultUnsafe() {
        StrataHouse x = relations();
        x.rule(0, 3, 4);
        due.is("constants are safe", () -> x.fault(), StrataHouse.NONE);
        x.rule(2, 21, 0);
        due.is("a head's variable", () -> x.fault(), 1);
        x.literal(0, 20, 21, true);
        due.is("a negated literal binds none", () -> x.fault(), 1);
        x.literal(0, 21, 21, false);
        due.is("a negated literal's variable", () -> x.fault(), 1);
        x.literal(1, 4, 20, false);
        due.is("bound behind it", () -> x.fault(), StrataHouse.NONE);
        x.rule(1, 20, 23);
        x.literal(2, 20, 23, false);
        due.is("the second of a head", () -> x.fault(), 2);
        x.rule(1, 23, 20);
        due.is("the first one that isn't safe", () -> x.fault(), 2);
        due.raises("layer", () -> x.layer(0), STATE);
        due.raises("count", () -> x.count(0), STATE);
        due.raises("rank", () -> x.rank(0, 3, 4), STATE);
        due.raises("ways", () -> x.ways(0, 3, 4), STATE);
        due.raises("proof", () -> x.proof(0, 3, 4, 0), STATE);
        due.is("facts can be given all the same", () -> Due.bit(x.give(0, 1, 1)), 1);
        due.is("relations can be made", () -> x.relation(0), 4);
        x.unrule();
        x.unrule();
        due.is("given meanwhile", () -> x.rank(0, 1, 1), 0);
    }

    private void faultNotLayered() {
        StrataHouse x = relations();
        x.rule(2, 20, 0);
        x.literal(0, 20, 21, false);
        x.literal(2, 21, 0, true);
        due.is("a relation that denies itself", () -> x.fault(), 100);
        due.raises("layer", () -> x.layer(3), STATE);
        due.raises("count", () -> x.count(3), STATE);
        x.rule(2, 22, 0);
        due.is("unsafe goes first", () -> x.fault(), 1);
        x.unrule();
        x.unrule();
        due.is("mended", () -> x.fault(), StrataHouse.NONE);
        StrataHouse y = new StrataHouse();
        for (int i = 0; i < 8; i++) {
            y.relation(0);
        }
        for (int i = 7; i > 0; i--) {
            y.rule(i, 0, 0);
            y.literal(i - 1, 0, 0, true);
        }
        due.is("seven negations in a row, the last first", () -> y.fault(), StrataHouse.NONE);
        due.is("the highest layer", () -> y.layer(7), 7);
        due.is("the odd ones hold", () -> y.count(0) * 8 + y.count(1) * 4 + y.count(6) * 2 + y.count(7), 5);
        y.rule(0, 0, 0);
        y.literal(7, 0, 0, false);
        due.is("the long circle", () -> y.fault(), 100);
        y.unrule();
        y.rule(3, 0, 0);
        y.literal(3, 0, 0, false);
        due.is("a circle without negation", () -> y.fault(), StrataHouse.NONE);
    }

    private void layer() {
        StrataHouse x = relations();
        due.raises("layer(-1)", () -> x.layer(-1), ARGUMENT);
        due.raises("layer(4)", () -> x.layer(4), ARGUMENT);
        x.rule(1, 20, 21);
        x.literal(0, 20, 21, false);
        due.is("positive: the same", () -> x.layer(1), 0);
        x.rule(2, 20, 0);
        x.literal(0, 20, 21, false);
        x.literal(1, 21, 20, true);
        due.is("negated: above", () -> x.layer(2), 1);
        x.rule(3, 0, 0);
        x.literal(2, 5, 0, true);
        due.is("above that", () -> x.layer(3), 2);
        x.rule(1, 20, 20);
        x.literal(0, 20, 20, false);
        x.literal(0, 20, 21, false);
        x.literal(0, 21, 20, true);
        due.is("a later rule raises those above too", () -> x.layer(1) * 100 + x.layer(2) * 10 + x.layer(3), 123);
        due.is("the least numbers", () -> x.layer(0), 0);
        x.rule(0, 1, 1);
        x.literal(3, 0, 0, true);
        due.raises("in a circle", () -> x.layer(0), STATE);
    }

    private void count() {
        StrataHouse x = relations();
        due.raises("count(-1)", () -> x.count(-1), ARGUMENT);
        due.raises("count(4)", () -> x.count(4), ARGUMENT);
        for (int i = 0; i < 144; i++) {
            x.give(0, i / 12, i % 12);
        }
        due.is("all facts of two places", () -> x.count(0), 144);
        x.rule(2, 20, 0);
        x.literal(0, 20, 21, false);
        due.is("all of one place", () -> x.count(2), 12);
        x.rule(3, 0, 0);
        x.literal(2, 11, 0, false);
        due.is("all of none", () -> x.count(3), 1);
        x.rule(1, 20, 20);
        x.literal(0, 20, 20, false);
        due.is("a variable twice", () -> x.count(1), 12);
        x.rule(1, 7, 20);
        x.literal(2, 20, 0, false);
        due.is("given and following ones once", () -> x.count(1), 23);
        x.relation(2);
        x.rule(4, 20, 21);
        x.literal(0, 20, 21, false);
        x.literal(1, 20, 21, true);
        due.is("those denied are left out", () -> x.count(4), 121);
    }

    private void rank() {
        StrataHouse x = chain();
        due.is("given", () -> x.rank(0, 4, 5), 0);
        for (int i = 1; i <= 5; i++) {
            int far = i;
            due.is("round " + i, () -> x.rank(1, 0, far), i);
        }
        due.is("doesn't hold", () -> x.rank(1, 5, 0), StrataHouse.NONE);
        due.is("doesn't hold either", () -> x.rank(1, 3, 3), StrataHouse.NONE);
        x.rule(2, 20, 0);
        x.literal(1, 0, 20, false);
        due.is("a round behind", () -> x.rank(2, 5, 0), 6);
        x.rule(1, 20, 21);
        x.literal(1, 20, 22, false);
        x.literal(1, 22, 21, false);
        due.is("a shorter way", () -> x.rank(1, 0, 5), 4);
        due.is("by the new rule", () -> x.rank(1, 0, 4), 3);
        x.give(1, 0, 4);
        due.is("sooner by a given one", () -> x.rank(1, 0, 5), 1);
    }

    /** What comes is built on in the next round, at either end of the relations and constants. */
    private void rankOfFirstAndLast() {
        StrataHouse x = new StrataHouse();
        for (int i = 0; i < 8; i++) {
            x.relation(2);
        }
        x.rule(0, 0, 0);
        x.rule(0, 0, 11);
        x.literal(0, 0, 0, false);
        x.rule(7, 11, 20);
        x.literal(0, 0, 20, false);
        x.rule(7, 20, 0);
        x.literal(7, 20, 11, false);
        due.is("the first", () -> x.rank(0, 0, 0), 1);
        due.is("by the first", () -> x.rank(0, 0, 11), 2);
        due.is("the last", () -> x.rank(7, 11, 11), 3);
        due.is("one soon", () -> x.rank(7, 11, 0), 2);
        due.is("its ways", () -> x.ways(7, 11, 0), 2);
        due.is("its proof", () -> x.proof(7, 11, 0, 0), 2);
    }

    private void rankOverLayers() {
        StrataHouse x = chain();
        x.relation(1);
        x.rule(2, 20, 0);
        x.literal(1, 20, 21, false);
        x.literal(1, 21, 20, true);
        due.is("layer", () -> x.layer(2), 1);
        due.is("rounds begin at 1 in each layer", () -> x.rank(2, 0, 0), 1);
        x.rule(2, 21, 0);
        x.literal(2, 20, 0, false);
        x.literal(1, 20, 21, false);
        due.is("a layer below holds at once", () -> x.rank(2, 5, 0), 2);
        x.rule(4, 20, 0);
        x.literal(1, 3, 20, false);
        due.is("of layer 0", () -> x.layer(4), 0);
        due.is("rounds go on", () -> x.rank(4, 5, 0), 3);
        x.give(0, 5, 0);
        due.is("what denies takes away", () -> x.rank(2, 3, 0), StrataHouse.NONE);
    }

    private void ways() {
        StrataHouse x = chain();
        due.is("one that doesn't hold", () -> x.ways(1, 5, 0), 0);
        due.is("a given one without rules", () -> x.ways(0, 0, 1), 0);
        due.is("by one rule", () -> x.ways(1, 0, 5), 1);
        x.give(0, 0, 2);
        due.is("by both rules", () -> x.ways(1, 0, 2), 2);
        x.give(0, 2, 2);
        due.is("a way by itself counts", () -> x.ways(1, 0, 2), 3);
        x.give(1, 0, 2);
        due.is("a given one's ways", () -> x.ways(1, 0, 2), 3);
        StrataHouse y = relations();
        for (int i = 0; i < 144; i++) {
            y.give(0, i / 12, i % 12);
        }
        y.rule(3, 0, 0);
        y.literal(0, 20, 21, false);
        y.literal(0, 22, 23, false);
        due.is("all instances of four variables", () -> y.ways(3, 0, 0), 20736);
        y.take(0, 3, 3);
        due.is("but those", () -> y.ways(3, 0, 0), 143 * 143);
        y.literal(0, 20, 23, false);
        y.literal(1, 21, 21, true);
        y.give(1, 3, 3);
        // 21 isn't 3: for each 20 but 3, 11 of 21 and 143 of 22, 23; for 3, where 23 isn't 3, 11 and 132.
        due.is("with a negated literal", () -> y.ways(3, 0, 0), 11 * 11 * 143 + 11 * 132);
        y.rule(3, 0, 0);
        y.rule(3, 0, 0);
        y.literal(0, 0, 0, false);
        y.literal(0, 0, 0, false);
        due.is("rules without variables count once each", () -> y.ways(3, 0, 0), 18757);
    }

    private void proof() {
        StrataHouse x = chain();
        due.is("the rule", () -> x.proof(1, 0, 1, 0), 0);
        due.is("20", () -> x.proof(1, 0, 1, 1), 0);
        due.is("21", () -> x.proof(1, 0, 1, 2), 1);
        due.is("22 isn't there", () -> x.proof(1, 0, 1, 3), StrataHouse.NONE);
        due.is("23 isn't there", () -> x.proof(1, 0, 1, 4), StrataHouse.NONE);
        due.is("the second rule", () -> x.proof(1, 1, 4, 0), 1);
        due.is("20 of it", () -> x.proof(1, 1, 4, 1), 1);
        due.is("21 of it", () -> x.proof(1, 1, 4, 2), 4);
        due.is("22 of it", () -> x.proof(1, 1, 4, 3), 3);
        due.is("23 of it", () -> x.proof(1, 1, 4, 4), StrataHouse.NONE);
        due.raises("what -1", () -> x.proof(1, 1, 4, -1), ARGUMENT);
        due.raises("what 5", () -> x.proof(1, 1, 4, 5), ARGUMENT);
        due.raises("what 5 of none", () -> x.proof(1, 4, 1, 5), ARGUMENT);
        due.raises("one that doesn't hold", () -> x.proof(1, 4, 1, 0), MISSING);
        due.raises("a given one", () -> x.proof(0, 1, 2, 1), MISSING);
        x.give(1, 0, 1);
        due.raises("a given one that follows too", () -> x.proof(1, 0, 1, 0), MISSING);
        x.rule(3, 0, 0);
        due.is("a rule without literals", () -> x.proof(3, 0, 0, 0), 2);
        due.is("it has no variables", () -> x.proof(3, 0, 0, 1), StrataHouse.NONE);
    }

    private void proofChoosesLeast() {
        StrataHouse x = relations();
        x.rule(3, 0, 0);
        x.literal(0, 23, 21, false);
        x.literal(0, 20, 22, false);
        x.give(0, 4, 9);
        x.give(0, 6, 2);
        due.is("20 is the least", () -> x.proof(3, 0, 0, 1), 4);
        due.is("21 then", () -> x.proof(3, 0, 0, 2), 2);
        due.is("22 then", () -> x.proof(3, 0, 0, 3), 9);
        due.is("23 then", () -> x.proof(3, 0, 0, 4), 6);
        x.literal(2, 21, 0, true);
        x.give(2, 2, 0);
        due.is("what is denied is passed over", () -> x.proof(3, 0, 0, 4), 4);

        StrataHouse y = relations();
        y.give(0, 1, 2);
        y.rule(1, 20, 21);
        y.literal(1, 21, 20, false);
        y.rule(1, 20, 21);
        y.literal(0, 20, 21, false);
        due.is("ways by both", () -> y.ways(1, 1, 2), 2);
        due.is("the least rule would build on a higher rank", () -> y.proof(1, 1, 2, 0), 1);
        due.is("the one that came by it", () -> y.proof(1, 2, 1, 0), 0);
        y.give(0, 2, 1);
        due.is("an equal rank is not below", () -> y.proof(1, 2, 1, 0), 1);
        y.rule(1, 20, 21);
        y.literal(0, 20, 21, false);
        due.is("the first of two alike", () -> y.proof(1, 1, 2, 0), 1);
    }

    /** A literal of a layer below may have any rank; one of the same layer, of another relation, not. */
    private void proofOverLayers() {
        StrataHouse x = chain();
        x.rule(2, 20, 0);
        x.literal(1, 0, 20, false);
        x.literal(1, 20, 0, true);
        due.is("rank 1 from rank 5", () -> x.rank(2, 5, 0) * 10 + x.rank(1, 0, 5), 15);
        due.is("its rule", () -> x.proof(2, 5, 0, 0), 2);
        due.is("its value", () -> x.proof(2, 5, 0, 1), 5);
        StrataHouse y = relations();
        y.rule(2, 20, 0);
        y.literal(1, 20, 21, false);
        y.rule(1, 3, 4);
        y.literal(2, 3, 0, false);
        y.rule(1, 3, 4);
        due.is("told by the later rule", () -> y.proof(1, 3, 4, 0), 2);
        due.is("ways by both", () -> y.ways(1, 3, 4), 2);
        due.is("the other relation", () -> y.proof(2, 3, 0, 2), 4);
    }

    private void wrongFacts() {
        StrataHouse x = relations();
        for (int wrong : NO_CONSTANTS) {
            wrongFact(x, 0, wrong, 0);
            wrongFact(x, 0, 0, wrong);
            wrongFact(x, 2, wrong, 0);
        }
        wrongFact(x, -1, 0, 0);
        wrongFact(x, 4, 0, 0);
        wrongFact(x, 8, 0, 0);
        wrongFact(x, Integer.MAX_VALUE, 0, 0);
        wrongFact(x, Integer.MIN_VALUE, 0, 0);
        for (int i = 0; i < 4; i++) {
            int number = i;
            due.is("nothing came of it", () -> x.count(number), 0);
        }
    }

    private void wrongFact(StrataHouse x, int relation, int a, int b) {
        String fact = "(" + relation + ", " + a + ", " + b + ")";
        due.raises("give" + fact, () -> Due.bit(x.give(relation, a, b)), ARGUMENT);
        due.raises("take" + fact, () -> Due.bit(x.take(relation, a, b)), ARGUMENT);
        due.raises("rank" + fact, () -> x.rank(relation, a, b), ARGUMENT);
        due.raises("ways" + fact, () -> x.ways(relation, a, b), ARGUMENT);
        due.raises("proof" + fact, () -> x.proof(relation, a, b, 0), ARGUMENT);
    }

    private void faultComesBehindArguments() {
        StrataHouse x = relations();
        x.rule(0, 20, 20);
        due.raises("layer(4)", () -> x.layer(4), ARGUMENT);
        due.raises("count(-1)", () -> x.count(-1), ARGUMENT);
        due.raises("proof of what 5", () -> x.proof(0, 0, 0, 5), ARGUMENT);
        due.raises("proof of what 4", () -> x.proof(0, 0, 0, 4), STATE);
        wrongFact(x, 0, 12, 0);
        wrongFact(x, 4, 0, 0);
    }

    private void throwingChangesNothing() {
        StrataHouse x = chain();
        x.rule(2, 20, 0);
        x.literal(1, 20, 21, false);
        due.is("before", () -> x.count(2), 5);
        due.raises("relation", () -> x.relation(3), ARGUMENT);
        due.raises("rule", () -> x.rule(1, 7, 24), ARGUMENT);
        due.raises("literal", () -> x.literal(1, 20, 12, true), ARGUMENT);
        due.raises("give", () -> Due.bit(x.give(0, 5, 12)), ARGUMENT);
        due.raises("take", () -> Due.bit(x.take(0, 0, -1)), ARGUMENT);
        due.raises("proof", () -> x.proof(1, 5, 5, 0), MISSING);
        due.is("relation 4 is next", () -> x.relation(0), 4);
        due.is("the same facts", () -> x.count(0) * 100 + x.count(1), 515);
        due.is("the same rule", () -> x.count(2), 5);
        due.is("literal 2 is next", () -> x.literal(0, 20, 21, false), 2);
        x.literal(0, 20, 21, false);
        x.literal(0, 20, 21, false);
        due.raises("literal 5", () -> x.literal(1, 21, 20, true), FULL);
        due.is("the rule is as it was", () -> x.count(2), 5);
        due.is("rule 3 is next", () -> x.rule(4, 0, 0), 3);
    }
}
