import java.util.ArrayList;
import java.util.Arrays;
import java.util.HashMap;
import java.util.HashSet;
import java.util.List;
import java.util.Map;
import java.util.NoSuchElementException;
import java.util.Set;

/**
 * The document's words over sets and maps, each instance tried one by one: slow, and built on none
 * of the class's ideas, so that the two err in different places.
 */
final class Model {
    private record Atom(int relation, List<Integer> terms, boolean negated) { }

    private record Fact(int relation, List<Integer> constants) { }

    private static final class Rule {
        private Atom head;
        private final List<Atom> literals = new ArrayList<>();

        private List<Integer> variables() {
            Set<Integer> found = new HashSet<>(head.terms());
            for (Atom literal : literals) {
                found.addAll(literal.terms());
            }
            return found.stream().filter(t -> t >= 20).sorted().toList();
        }

        private boolean isSafe() {
            Set<Integer> positive = new HashSet<>();
            Set<Integer> needed = new HashSet<>(head.terms());
            for (Atom literal : literals) {
                (literal.negated() ? needed : positive).addAll(literal.terms());
            }
            return needed.stream().filter(t -> t >= 20).allMatch(positive::contains);
        }
    }

    private final List<Integer> places = new ArrayList<>();
    private final Set<Fact> given = new HashSet<>();
    private final List<Rule> rules = new ArrayList<>();
    private Map<Fact, Integer> ranks;

    void clear() {
        places.clear();
        given.clear();
        rules.clear();
        ranks = null;
    }

    int relation(int many) {
        need(many >= 0 && many <= 2);
        room(places.size() < 8);
        places.add(many);
        ranks = null;
        return places.size() - 1;
    }

    boolean give(int relation, int a, int b) {
        Fact fact = fact(relation, a, b);
        ranks = null;
        return given.add(fact);
    }

    boolean take(int relation, int a, int b) {
        Fact fact = fact(relation, a, b);
        ranks = null;
        return given.remove(fact);
    }

    int rule(int relation, int a, int b) {
        Atom head = atom(relation, a, b, false);
        room(rules.size() < 16);
        Rule rule = new Rule();
        rule.head = head;
        rules.add(rule);
        ranks = null;
        return rules.size() - 1;
    }

    int literal(int relation, int a, int b, boolean negated) {
        state(!rules.isEmpty());
        Atom literal = atom(relation, a, b, negated);
        Rule latest = rules.get(rules.size() - 1);
        room(latest.literals.size() < 4);
        latest.literals.add(literal);
        ranks = null;
        return latest.literals.size();
    }

    void unrule() {
        state(!rules.isEmpty());
        rules.remove(rules.size() - 1);
        ranks = null;
    }

    int fault() {
        for (int i = 0; i < rules.size(); i++) {
            if (!rules.get(i).isSafe()) {
                return i;
            }
        }
        boolean[][] reach = reach();
        for (Rule rule : rules) {
            for (Atom literal : rule.literals) {
                if (literal.negated() && reach[literal.relation()][rule.head.relation()]) {
                    return 100;
                }
            }
        }
        return -1;
    }

    int layer(int relation) {
        need(relation >= 0 && relation < places.size());
        state(fault() == -1);
        return layerOf(relation, reach());
    }

    int count(int relation) {
        need(relation >= 0 && relation < places.size());
        settle();
        return (int) ranks.keySet().stream().filter(f -> f.relation() == relation).count();
    }

    int rank(int relation, int a, int b) {
        Fact fact = fact(relation, a, b);
        settle();
        return ranks.getOrDefault(fact, -1);
    }

    int ways(int relation, int a, int b) {
        Fact fact = fact(relation, a, b);
        settle();
        int sum = 0;
        for (Rule rule : rules) {
            for (int[] values : instances(rule, fact)) {
                if (agrees(rule, values, Integer.MAX_VALUE)) {
                    sum++;
                }
            }
        }
        return sum;
    }

    int proof(int relation, int a, int b, int what) {
        Fact fact = fact(relation, a, b);
        need(what >= 0 && what <= 4);
        settle();
        int rank = ranks.getOrDefault(fact, -1);
        if (rank <= 0) {
            throw new NoSuchElementException();
        }
        for (int i = 0; i < rules.size(); i++) {
            for (int[] values : instances(rules.get(i), fact)) {
                if (agrees(rules.get(i), values, rank)) {
                    return what == 0 ? i : values[what - 1];
                }
            }
        }
        throw new AssertionError("a fact that came has a proof");
    }

    /** One of the facts that came in a round; null if there is none. */
    int[] someThatCame(int index) {
        if (fault() != -1) {
            return null;
        }
        settle();
        List<int[]> came = new ArrayList<>();
        for (int relation = 0; relation < places.size(); relation++) {
            for (int a = 0; a < 12; a++) {
                for (int b = 0; b < 12; b++) {
                    if (rank(relation, a, b) > 0) {
                        came.add(new int[] {relation, a, b});
                    }
                }
            }
        }
        return came.isEmpty() ? null : came.get(index % came.size());
    }

    private void need(boolean right) {
        if (!right) {
            throw new IllegalArgumentException();
        }
    }

    private void room(boolean there) {
        if (!there) {
            throw new UnsupportedOperationException();
        }
    }

    private void state(boolean right) {
        if (!right) {
            throw new IllegalStateException();
        }
    }

    private List<Integer> placesOf(int relation, int a, int b) {
        need(relation >= 0 && relation < places.size());
        return List.of(a, b).subList(0, places.get(relation));
    }

    private Fact fact(int relation, int a, int b) {
        List<Integer> constants = placesOf(relation, a, b);
        need(constants.stream().allMatch(c -> c >= 0 && c <= 11));
        return new Fact(relation, constants);
    }

    private Atom atom(int relation, int a, int b, boolean negated) {
        List<Integer> terms = placesOf(relation, a, b);
        need(terms.stream().allMatch(t -> t >= 0 && t <= 11 || t >= 20 && t <= 23));
        return new Atom(relation, terms, negated);
    }

    /** Which relations each relation is told by, itself among them. */
    private boolean[][] reach() {
        boolean[][] reach = new boolean[8][8];
        for (int i = 0; i < 8; i++) {
            reach[i][i] = true;
        }
        for (Rule rule : rules) {
            for (Atom literal : rule.literals) {
                reach[rule.head.relation()][literal.relation()] = true;
            }
        }
        for (int k = 0; k < 8; k++) {
            for (int i = 0; i < 8; i++) {
                for (int j = 0; j < 8; j++) {
                    reach[i][j] |= reach[i][k] && reach[k][j];
                }
            }
        }
        return reach;
    }

    private int layerOf(int relation, boolean[][] reach) {
        int most = 0;
        for (Rule rule : rules) {
            for (Atom literal : rule.literals) {
                if (literal.negated() && reach[relation][rule.head.relation()]) {
                    most = Math.max(most, 1 + layerOf(literal.relation(), reach));
                }
            }
        }
        return most;
    }

    private void settle() {
        if (ranks != null) {
            return;
        }
        state(fault() == -1);
        ranks = new HashMap<>();
        for (Fact fact : given) {
            ranks.put(fact, 0);
        }
        boolean[][] reach = reach();
        for (int layer = 0; layer < 8; layer++) {
            boolean brought = true;
            for (int round = 1; brought; round++) {
                brought = bring(layer, round, reach);
            }
        }
    }

    private boolean bring(int layer, int round, boolean[][] reach) {
        Set<Fact> fresh = new HashSet<>();
        for (Rule rule : rules) {
            if (layerOf(rule.head.relation(), reach) != layer) {
                continue;
            }
            for (int[] values : instances(rule, null)) {
                Fact head = instance(rule.head, values);
                if (!ranks.containsKey(head) && agrees(rule, values, Integer.MAX_VALUE)) {
                    fresh.add(head);
                }
            }
        }
        for (Fact fact : fresh) {
            ranks.put(fact, round);
        }
        return !fresh.isEmpty();
    }

    /** All values of 20 .. 23 (-1 of one that the rule hasn't), the least first. */
    private List<int[]> instances(Rule rule, Fact head) {
        List<int[]> all = new ArrayList<>();
        all.add(new int[] {-1, -1, -1, -1});
        for (int variable : rule.variables()) {
            List<int[]> more = new ArrayList<>();
            for (int[] values : all) {
                for (int constant = 0; constant < 12; constant++) {
                    int[] longer = Arrays.copyOf(values, 4);
                    longer[variable - 20] = constant;
                    more.add(longer);
                }
            }
            all = more;
        }
        if (head != null) {
            all.removeIf(values -> !instance(rule.head, values).equals(head));
        }
        return all;
    }

    private static Fact instance(Atom atom, int[] values) {
        return new Fact(atom.relation(), atom.terms().stream().map(t -> t < 20 ? t : values[t - 20]).toList());
    }

    private boolean agrees(Rule rule, int[] values, int limit) {
        boolean[][] reach = limit == Integer.MAX_VALUE ? null : reach();
        for (Atom literal : rule.literals) {
            Integer rank = ranks.get(instance(literal, values));
            if (literal.negated() ? rank != null : rank == null) {
                return false;
            }
            if (!literal.negated() && reach != null && rank >= limit
                    && layerOf(literal.relation(), reach) == layerOf(rule.head.relation(), reach)) {
                return false;
            }
        }
        return true;
    }
}
