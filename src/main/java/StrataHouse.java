import java.util.Arrays;
import java.util.NoSuchElementException;

/**
 * Facts and rules with negation, layer by layer: what follows, in which round it follows first, in
 * how many ways, and by which rule and values it can be told.
 */
public final class StrataHouse {
    /** There is none. */
    public static final int NONE = -1;

    private static final int RELATIONS = 8;
    private static final int PLACES = 2;
    private static final int RULES = 16;
    private static final int LITERALS = 4;
    private static final int CONSTANTS = 12;
    private static final int FIRST_VARIABLE = 20;
    private static final int VARIABLES = 4;
    private static final int END_OF_TERMS = FIRST_VARIABLE + VARIABLES;
    private static final int ROWS = RELATIONS * CONSTANTS;
    private static final int FACTS = ROWS * CONSTANTS;
    private static final int ALL_RELATIONS = (1 << RELATIONS) - 1;
    private static final int ALL_CONSTANTS = (1 << CONSTANTS) - 1;
    private static final int ALL_VARIABLES = ((1 << VARIABLES) - 1) << FIRST_VARIABLE;
    private static final int NOT_LAYERED = 100;
    private static final int NO_LIMIT = Integer.MAX_VALUE;

    private final int[] places = new int[RELATIONS];
    private final int[] given = new int[ROWS];
    private final Rule[] rules = new Rule[RULES];
    private int relationCount;
    private int ruleCount;

    private final int[] layers = new int[RELATIONS];
    private final int[] ranks = new int[FACTS];
    private final int[] fresh = new int[ROWS];
    private final Match match = new Match();
    private int faultFound = NONE;

    // What follows is worked out when it is asked for, and kept until a change makes it stale.
    private boolean judged;
    private boolean settled;

    /** No relations. */
    public StrataHouse() {
        for (int i = 0; i < RULES; i++) {
            rules[i] = new Rule();
        }
    }

    /** All goes. */
    public void clear() {
        Arrays.fill(given, 0);
        relationCount = 0;
        ruleCount = 0;
        rulesChanged();
    }

    /** A relation of so many places: its number. */
    public int relation(int places) throws IllegalArgumentException, UnsupportedOperationException {
        if (places < 0 || places > PLACES) {
            throw new IllegalArgumentException("a relation has 0, 1 or 2 places");
        }
        if (relationCount >= RELATIONS) {
            throw new UnsupportedOperationException("there are eight relations");
        }
        this.places[relationCount] = places;
        relationCount++;
        rulesChanged();
        return relationCount - 1;
    }

    /** A given fact more: whether it is new. */
    public boolean give(int relation, int a, int b) throws IllegalArgumentException {
        checkFact(relation, a, b);
        return setGiven(relation, a, b, true);
    }

    /** A given fact goes: whether it was one. */
    public boolean take(int relation, int a, int b) throws IllegalArgumentException {
        checkFact(relation, a, b);
        return setGiven(relation, a, b, false);
    }

    /** A rule with this head, without literals: its number. */
    public int rule(int relation, int a, int b) throws IllegalArgumentException, UnsupportedOperationException {
        checkTerms(relation, a, b);
        if (ruleCount >= RULES) {
            throw new UnsupportedOperationException("there are sixteen rules");
        }
        rules[ruleCount].begin(relation, firstOf(relation, a), secondOf(relation, b));
        ruleCount++;
        rulesChanged();
        return ruleCount - 1;
    }

    /** A literal more for the latest rule: how many it has. */
    public int literal(int relation, int a, int b, boolean negated)
            throws IllegalStateException, IllegalArgumentException, UnsupportedOperationException {
        checkSomeRule();
        checkTerms(relation, a, b);
        Rule latest = rules[ruleCount - 1];
        if (latest.isFull()) {
            throw new UnsupportedOperationException("the latest rule has four literals");
        }
        latest.add(relation, firstOf(relation, a), secondOf(relation, b), negated);
        rulesChanged();
        return latest.size;
    }

    /** The latest rule goes. */
    public void unrule() throws IllegalStateException {
        checkSomeRule();
        ruleCount--;
        rulesChanged();
    }

    /** NONE, or the first rule that isn't safe, or 100 if they are all safe but not layered. */
    public int fault() {
        judge();
        return faultFound;
    }

    /** The layer of a relation. */
    public int layer(int relation) throws IllegalArgumentException, IllegalStateException {
        checkRelation(relation);
        checkNoFault();
        return layers[relation];
    }

    /** How many facts of a relation hold. */
    public int count(int relation) throws IllegalArgumentException, IllegalStateException {
        checkRelation(relation);
        checkNoFault();
        settle();
        int held = 0;
        int end = factAt(relation, CONSTANTS, 0);
        for (int fact = factAt(relation, 0, 0); fact < end; fact++) {
            if (ranks[fact] != NONE) {
                held++;
            }
        }
        return held;
    }

    /** The rank of a fact; NONE if it doesn't hold. */
    public int rank(int relation, int a, int b) throws IllegalArgumentException, IllegalStateException {
        checkFact(relation, a, b);
        checkNoFault();
        settle();
        return ranks[factAt(relation, firstOf(relation, a), secondOf(relation, b))];
    }

    /** In how many ways a fact follows. */
    public int ways(int relation, int a, int b) throws IllegalArgumentException, IllegalStateException {
        checkFact(relation, a, b);
        checkNoFault();
        settle();
        look(layers[relation], NO_LIMIT);
        int sum = 0;
        for (int i = 0; i < ruleCount; i++) {
            if (match.meets(rules[i], relation, firstOf(relation, a), secondOf(relation, b))) {
                sum += match.countInstances(rules[i], FIRST_VARIABLE);
            }
        }
        return sum;
    }

    /** Of a fact's proof: 0 the rule, 1 .. 4 the values of 20 .. 23. */
    public int proof(int relation, int a, int b, int what)
            throws IllegalArgumentException, IllegalStateException, NoSuchElementException {
        checkFact(relation, a, b);
        if (what < 0 || what > VARIABLES) {
            throw new IllegalArgumentException("a proof tells 0 .. 4");
        }
        checkNoFault();
        settle();
        int first = firstOf(relation, a);
        int second = secondOf(relation, b);
        int rank = ranks[factAt(relation, first, second)];
        if (rank == NONE || rank == 0) {
            throw new NoSuchElementException("the fact doesn't hold, or is given");
        }
        look(layers[relation], rank);
        int told = leastRule(relation, first, second);
        return what == 0 ? told : match.values[FIRST_VARIABLE + what - 1];
    }

    private void checkRelation(int relation) {
        if (relation < 0 || relation >= relationCount) {
            throw new IllegalArgumentException("there is no such relation");
        }
    }

    private void checkFact(int relation, int a, int b) {
        checkRelation(relation);
        if (!isConstant(firstOf(relation, a)) || !isConstant(secondOf(relation, b))) {
            throw new IllegalArgumentException("a place's number is no constant");
        }
    }

    private void checkTerms(int relation, int a, int b) {
        checkRelation(relation);
        if (!isTerm(firstOf(relation, a)) || !isTerm(secondOf(relation, b))) {
            throw new IllegalArgumentException("a place's number is no term");
        }
    }

    private void checkSomeRule() {
        if (ruleCount == 0) {
            throw new IllegalStateException("there is no rule");
        }
    }

    private void checkNoFault() {
        judge();
        if (faultFound != NONE) {
            throw new IllegalStateException("the rules have a fault");
        }
    }

    private static boolean isConstant(int number) {
        return number >= 0 && number < CONSTANTS;
    }

    private static boolean isTerm(int number) {
        return isConstant(number) || number >= FIRST_VARIABLE && number < END_OF_TERMS;
    }

    // A place that the relation hasn't is held as the constant 0: so every fact, head and literal
    // has two places behind the face, and none needs a case of its own.
    private int firstOf(int relation, int a) {
        return places[relation] >= 1 ? a : 0;
    }

    private int secondOf(int relation, int b) {
        return places[relation] >= PLACES ? b : 0;
    }

    private static int rowAt(int relation, int constant) {
        return relation * CONSTANTS + constant;
    }

    private static int factAt(int relation, int first, int second) {
        return rowAt(relation, first) * CONSTANTS + second;
    }

    private static boolean hasBit(int bits, int index) {
        return (bits >> index & 1) != 0;
    }

    private void rulesChanged() {
        judged = false;
        settled = false;
    }

    private boolean setGiven(int relation, int a, int b, boolean told) {
        int row = rowAt(relation, firstOf(relation, a));
        int second = secondOf(relation, b);
        if (hasBit(given[row], second) == told) {
            return false;
        }
        given[row] ^= 1 << second;
        settled = false;
        return true;
    }

    private void judge() {
        if (judged) {
            return;
        }
        faultFound = firstUnsafe();
        if (faultFound == NONE && !findLayers()) {
            faultFound = NOT_LAYERED;
        }
        judged = true;
    }

    private int firstUnsafe() {
        for (int i = 0; i < ruleCount; i++) {
            if (!rules[i].isSafe()) {
                return i;
            }
        }
        return NONE;
    }

    // A least layer comes along a chain of literals that meets no relation twice, so as many passes
    // as there are relations settle them; if the last one still raises, a negation runs in a circle.
    private boolean findLayers() {
        Arrays.fill(layers, 0);
        for (int pass = 0; pass < RELATIONS; pass++) {
            if (!raiseLayers()) {
                return true;
            }
        }
        return false;
    }

    private boolean raiseLayers() {
        boolean raised = false;
        for (int i = 0; i < ruleCount; i++) {
            int head = rules[i].head.relation;
            int least = rules[i].leastLayer(layers);
            if (layers[head] < least) {
                layers[head] = least;
                raised = true;
            }
        }
        return raised;
    }

    private int topLayer() {
        int top = 0;
        for (int i = 0; i < relationCount; i++) {
            top = Math.max(top, layers[i]);
        }
        return top;
    }

    private void settle() {
        if (settled) {
            return;
        }
        rankGiven();
        int top = topLayer();
        for (int layer = 0; layer <= top; layer++) {
            look(layer, 1);
            int changed = ALL_RELATIONS;
            // Each round but the last brings a fact, so there is at most one round more than facts.
            for (int round = 1; changed != 0 && round <= FACTS + 1; round++) {
                bringRound(layer, round, changed);
                changed = showFresh();
            }
        }
        settled = true;
    }

    private void rankGiven() {
        for (int row = 0; row < ROWS; row++) {
            for (int second = 0; second < CONSTANTS; second++) {
                ranks[row * CONSTANTS + second] = hasBit(given[row], second) ? 0 : NONE;
            }
        }
    }

    // Behind the first round a rule brings something only if the round before changed a relation
    // that it builds on: all else it has brought already.
    private void bringRound(int layer, int round, int changed) {
        for (int i = 0; i < ruleCount; i++) {
            Rule rule = rules[i];
            if (layers[rule.head.relation] == layer
                    && (round == 1 || (rule.positiveRelations & changed) != 0)) {
                bringByRule(rule, round);
            }
        }
    }

    private void bringByRule(Rule rule, int round) {
        Atom head = rule.head;
        match.forget();
        int firsts = match.choices(rule, head.first);
        for (int first = 0; first < CONSTANTS; first++) {
            if (!hasBit(firsts, first)) {
                continue;
            }
            int row = rowAt(head.relation, first);
            int held = match.sight.secondsByFirst[row] | fresh[row];
            match.forget();
            match.bind(head.first, first);
            int seconds = match.choices(rule, head.second) & ~held;
            for (int second = 0; seconds != 0 && second < CONSTANTS; second++) {
                if (hasBit(seconds, second) && match.meets(rule, head.relation, first, second)
                        && match.findLeast(rule, FIRST_VARIABLE)) {
                    ranks[row * CONSTANTS + second] = round;
                    fresh[row] |= 1 << second;
                }
            }
        }
    }

    // What a round brings is seen behind it alone, so that its rules don't build on one another.
    private int showFresh() {
        int changed = 0;
        for (int row = 0; row < ROWS; row++) {
            for (int second = 0; fresh[row] != 0 && second < CONSTANTS; second++) {
                if (hasBit(fresh[row], second)) {
                    match.sight.show(row / CONSTANTS, row % CONSTANTS, second);
                    changed |= 1 << row / CONSTANTS;
                }
            }
            fresh[row] = 0;
        }
        return changed;
    }

    // Facts of the layer itself are seen with a rank below the limit alone, those below it all.
    private void look(int layer, int limit) {
        match.sight.forget();
        for (int i = 0; i < relationCount; i++) {
            if (layers[i] <= layer) {
                lookAt(i, layers[i] < layer ? NO_LIMIT : limit);
            }
        }
    }

    private void lookAt(int relation, int limit) {
        for (int first = 0; first < CONSTANTS; first++) {
            for (int second = 0; second < CONSTANTS; second++) {
                int rank = ranks[factAt(relation, first, second)];
                if (rank != NONE && rank < limit) {
                    match.sight.show(relation, first, second);
                }
            }
        }
    }

    /** The values of its variables are left in match. */
    private int leastRule(int relation, int first, int second) {
        for (int i = 0; i < ruleCount; i++) {
            if (match.meets(rules[i], relation, first, second) && match.findLeast(rules[i], FIRST_VARIABLE)) {
                return i;
            }
        }
        return NONE;
    }

    /** A head or a literal. */
    private static final class Atom {
        private int relation;
        private int first;
        private int second;
        private boolean negated;

        private void become(int relation, int first, int second, boolean negated) {
            this.relation = relation;
            this.first = first;
            this.second = second;
            this.negated = negated;
        }

        private int variables() {
            return (1 << first | 1 << second) & ALL_VARIABLES;
        }
    }

    private static final class Rule {
        private final Atom head = new Atom();
        private final Atom[] literals = new Atom[LITERALS];
        private int size;
        private int variables;
        private int positiveVariables;
        private int positiveRelations;

        private Rule() {
            for (int i = 0; i < LITERALS; i++) {
                literals[i] = new Atom();
            }
        }

        private void begin(int relation, int first, int second) {
            head.become(relation, first, second, false);
            size = 0;
            variables = head.variables();
            positiveVariables = 0;
            positiveRelations = 0;
        }

        private boolean isFull() {
            return size >= LITERALS;
        }

        private void add(int relation, int first, int second, boolean negated) {
            if (isFull()) {
                return;
            }
            Atom literal = literals[size];
            literal.become(relation, first, second, negated);
            size++;
            variables |= literal.variables();
            if (!negated) {
                positiveVariables |= literal.variables();
                positiveRelations |= 1 << relation;
            }
        }

        private boolean isSafe() {
            return variables == positiveVariables;
        }

        private int leastLayer(int[] layers) {
            int least = 0;
            for (int i = 0; i < size; i++) {
                Atom literal = literals[i];
                least = Math.max(least, layers[literal.relation] + (literal.negated ? 1 : 0));
            }
            return least;
        }
    }

    /** The facts that count as holding for the moment, as bits of constants for each look-up. */
    private static final class Sight {
        private final int[] secondsByFirst = new int[ROWS];
        private final int[] firstsBySecond = new int[ROWS];
        private final int[] firsts = new int[RELATIONS];
        private final int[] seconds = new int[RELATIONS];
        private final int[] doubles = new int[RELATIONS];

        private void forget() {
            Arrays.fill(secondsByFirst, 0);
            Arrays.fill(firstsBySecond, 0);
            Arrays.fill(firsts, 0);
            Arrays.fill(seconds, 0);
            Arrays.fill(doubles, 0);
        }

        private void show(int relation, int first, int second) {
            secondsByFirst[rowAt(relation, first)] |= 1 << second;
            firstsBySecond[rowAt(relation, second)] |= 1 << first;
            firsts[relation] |= 1 << first;
            seconds[relation] |= 1 << second;
            if (first == second) {
                doubles[relation] |= 1 << first;
            }
        }

        private boolean sees(int relation, int first, int second) {
            return (secondsByFirst[relation * CONSTANTS + first] >> second & 1) != 0;
        }
    }

    /** Looks for the instances of a rule of which the literals agree with what is seen. */
    private static final class Match {
        private final Sight sight = new Sight();
        // By term: a constant's value is itself, an open variable's is NONE.
        private final int[] values = new int[END_OF_TERMS];

        private Match() {
            for (int i = 0; i < CONSTANTS; i++) {
                values[i] = i;
            }
        }

        private void forget() {
            for (int i = FIRST_VARIABLE; i < END_OF_TERMS; i++) {
                values[i] = NONE;
            }
        }

        private boolean bind(int term, int constant) {
            if (values[term] == NONE) {
                values[term] = constant;
            }
            return values[term] == constant;
        }

        /** Binds the head to a fact: whether it can be it, and no literal thereby known disagrees. */
        private boolean meets(Rule rule, int relation, int first, int second) {
            forget();
            return rule.head.relation == relation && bind(rule.head.first, first)
                    && bind(rule.head.second, second) && knownAgree(rule);
        }

        private boolean knownAgree(Rule rule) {
            for (int i = 0; i < rule.size; i++) {
                Atom literal = rule.literals[i];
                int first = values[literal.first];
                int second = values[literal.second];
                if (first != NONE && second != NONE
                        && sight.sees(literal.relation, first, second) == literal.negated) {
                    return false;
                }
            }
            return true;
        }

        private int choices(Rule rule, int term) {
            if (values[term] != NONE) {
                return 1 << values[term];
            }
            int choices = ALL_CONSTANTS;
            for (int i = 0; i < rule.size; i++) {
                Atom literal = rule.literals[i];
                if (literal.first == term || literal.second == term) {
                    choices &= choicesBy(literal, term);
                }
            }
            return choices;
        }

        private int choicesBy(Atom literal, int variable) {
            int relation = literal.relation;
            boolean isFirst = literal.first == variable;
            int other = values[isFirst ? literal.second : literal.first];
            int seen;
            if (literal.first == literal.second) {
                seen = sight.doubles[relation];
            } else if (other != NONE) {
                int row = relation * CONSTANTS + other;
                seen = isFirst ? sight.firstsBySecond[row] : sight.secondsByFirst[row];
            } else if (literal.negated) {
                // It rules nothing out as long as its other place is open.
                seen = 0;
            } else {
                seen = isFirst ? sight.firsts[relation] : sight.seconds[relation];
            }
            return literal.negated ? ~seen : seen;
        }

        private int nextOpen(Rule rule, int from) {
            for (int i = from; i < END_OF_TERMS; i++) {
                if (hasBit(rule.variables, i) && values[i] == NONE) {
                    return i;
                }
            }
            return END_OF_TERMS;
        }

        // Leaves the values of the instance that it finds bound; each level takes a later variable.
        private boolean findLeast(Rule rule, int from) {
            int open = nextOpen(rule, from);
            if (open >= END_OF_TERMS) {
                return true;
            }
            int choices = choices(rule, open);
            for (int value = 0; value < CONSTANTS; value++) {
                if (hasBit(choices, value)) {
                    values[open] = value;
                    if (findLeast(rule, open + 1)) {
                        return true;
                    }
                }
            }
            values[open] = NONE;
            return false;
        }

        private int countInstances(Rule rule, int from) {
            int open = nextOpen(rule, from);
            if (open >= END_OF_TERMS) {
                return 1;
            }
            int choices = choices(rule, open);
            if (nextOpen(rule, open + 1) >= END_OF_TERMS) {
                return Integer.bitCount(choices);
            }
            int sum = 0;
            for (int value = 0; value < CONSTANTS; value++) {
                if (hasBit(choices, value)) {
                    values[open] = value;
                    sum += countInstances(rule, open + 1);
                }
            }
            values[open] = NONE;
            return sum;
        }
    }
}
