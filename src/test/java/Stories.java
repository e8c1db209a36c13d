import java.util.LinkedHashMap;
import java.util.Map;
import java.util.function.Consumer;

/** What an object is told before it is asked: each story takes fewer than a hundred calls. */
final class Stories {
    private Stories() { }

    static StrataHouse told(Consumer<StrataHouse> story) {
        StrataHouse x = new StrataHouse();
        story.accept(x);
        return x;
    }

    static StrataHouse relationsOf(int... places) {
        StrataHouse x = new StrataHouse();
        for (int many : places) {
            x.relation(many);
        }
        return x;
    }

    static Map<String, Consumer<StrataHouse>> all() {
        Map<String, Consumer<StrataHouse>> all = new LinkedHashMap<>();
        all.put("nothing", x -> { });
        all.put("relations", Stories::relations);
        all.put("facts", Stories::facts);
        all.put("chain", Stories::chain);
        all.put("unsafe", Stories::unsafe);
        all.put("circle", Stories::circle);
        all.put("full", Stories::full);
        return all;
    }

    /** Relations 0 (two places: steps), 1 (two places: ways along them), 2 (one place), 3 (no place). */
    static void relations(StrataHouse x) {
        x.relation(2);
        x.relation(2);
        x.relation(1);
        x.relation(0);
    }

    /** Steps 0 to 1 to .. to 5; no rule. */
    static void facts(StrataHouse x) {
        relations(x);
        for (int i = 0; i < 5; i++) {
            x.give(0, i, i + 1);
        }
    }

    /** The steps, and relation 1 as all that can be reached. */
    static void chain(StrataHouse x) {
        facts(x);
        x.rule(1, 20, 21);
        x.literal(0, 20, 21, false);
        x.rule(1, 20, 21);
        x.literal(1, 20, 22, false);
        x.literal(0, 22, 21, false);
    }

    /** The chain, and rule 2 with 21 in a negated literal alone. */
    static void unsafe(StrataHouse x) {
        chain(x);
        x.rule(2, 20, 0);
        x.literal(1, 20, 20, false);
        x.literal(1, 21, 20, true);
    }

    /** The chain, and relation 2 denying itself. */
    static void circle(StrataHouse x) {
        chain(x);
        x.rule(2, 21, 0);
        x.literal(0, 20, 21, false);
        x.literal(2, 20, 0, true);
    }

    /** Eight relations, sixteen rules, the latest with four literals; layers 0 to 3. */
    static void full(StrataHouse x) {
        eightRelations(x);
        lowerRules(x);
        upperRules(x);
        sixteenthRule(x);
    }

    static void eightRelations(StrataHouse x) {
        facts(x);
        x.relation(2);
        x.relation(1);
        x.relation(0);
        x.relation(2);
        x.give(0, 5, 3);
        x.give(2, 11, 0);
        x.give(7, 11, 0);
    }

    /** Rules 0 to 7: relations 0 to 3 in layer 0, relations 4 and 5 in layer 1. */
    private static void lowerRules(StrataHouse x) {
        x.rule(1, 20, 21);
        x.literal(0, 20, 21, false);
        x.rule(1, 20, 21);
        x.literal(1, 20, 22, false);
        x.literal(0, 22, 21, false);
        x.rule(2, 20, 0);
        x.literal(1, 20, 20, false);
        x.rule(3, 0, 0);
        x.literal(2, 3, 0, false);
        x.rule(4, 20, 21);
        x.literal(1, 20, 21, false);
        x.literal(1, 21, 20, true);
        x.rule(4, 20, 21);
        x.literal(4, 20, 22, false);
        x.literal(4, 22, 21, false);
        x.rule(5, 20, 0);
        x.literal(4, 20, 21, false);
        x.literal(2, 21, 0, true);
        x.rule(5, 21, 0);
        x.literal(4, 20, 21, false);
        x.literal(5, 20, 0, false);
    }

    /** Rules 8 to 14: relation 6 in layer 2, relation 7 in layer 3. */
    private static void upperRules(StrataHouse x) {
        x.rule(6, 0, 0);
        x.literal(3, 0, 0, true);
        x.rule(6, 0, 0);
        x.literal(5, 7, 0, true);
        x.rule(7, 20, 21);
        x.literal(4, 20, 21, false);
        x.literal(6, 0, 0, true);
        x.rule(7, 20, 0);
        x.literal(5, 20, 0, false);
        x.rule(7, 11, 11);
        x.rule(2, 0, 0);
        x.literal(3, 0, 0, false);
        x.rule(0, 9, 9);
        x.literal(0, 0, 1, false);
    }

    static void sixteenthRule(StrataHouse x) {
        x.rule(7, 20, 23);
        x.literal(0, 20, 21, false);
        x.literal(0, 21, 22, false);
        x.literal(0, 22, 23, false);
        x.literal(2, 21, 0, true);
    }
}
