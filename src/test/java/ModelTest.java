/** Long runs of mixed calls, right and wrong ones, each answer against the model's. */
public final class ModelTest {
    private static final int RUNS = 60;
    private static final int CALLS = 512;

    private final Due due = new Due();
    private long seed;
    private int run;
    private int relations;
    private StrataHouse house;
    private Model model;

    public static void main(String[] args) {
        ModelTest test = new ModelTest();
        for (int i = 0; i < RUNS; i++) {
            test.runOf(i);
        }
        test.due.end();
    }

    private void runOf(int number) {
        run = number;
        seed = 7919L * number + 17;
        house = new StrataHouse();
        model = new Model();
        relations = 0;
        for (int call = 0; call < CALLS; call++) {
            step();
        }
    }

    /** A fixed row of numbers, so that a run that fails fails again. */
    private int pick(int below) {
        seed = seed * 6364136223846793005L + 1442695040888963407L;
        return (int) ((seed >>> 33) % below);
    }

    private boolean rarely(int times) {
        return pick(times) == 0;
    }

    private void step() {
        int kind = pick(1000);
        if (relations < 3 + run % 6 || kind < 5) {
            makeRelation();
        } else if (kind < 250) {
            giveOrTake(pick(4) != 0);
        } else if (kind < 320) {
            makeRule();
        } else if (kind < 350) {
            unrule();
        } else if (kind < 352) {
            house.clear();
            model.clear();
            relations = 0;
        } else {
            ask();
        }
    }

    private int someRelation() {
        return rarely(40) ? pick(11) - 1 : pick(Math.max(1, relations));
    }

    private int someConstant() {
        return rarely(60) ? pick(30) - 3 : pick(rarely(3) ? 12 : 4);
    }

    private int someTerm() {
        if (rarely(80)) {
            return pick(40) - 8;
        }
        return rarely(6) ? someConstant() : 20 + pick(run % 4 == 0 ? 4 : 3);
    }

    private void compare(String call, Due.Call ofHouse, Due.Call ofModel) {
        due.same("run " + run + ": " + call, Due.answerOf(ofHouse), Due.answerOf(ofModel));
    }

    private void makeRelation() {
        int places = rarely(30) ? pick(8) - 3 : 2 - pick(5) / 2;
        compare("relation(" + places + ")", () -> house.relation(places), () -> model.relation(places));
        relations = Math.min(8, relations + 1);
    }

    /** Mostly of the first relations, and in chains, so that the rules have rounds to go. */
    private void giveOrTake(boolean give) {
        int r = rarely(5) ? someRelation() : pick(2);
        int a = rarely(3) ? someConstant() : pick(12);
        int b = rarely(3) ? someConstant() : Math.floorMod(a + 1, 12);
        String fact = "(" + r + ", " + a + ", " + b + ")";
        if (give) {
            compare("give" + fact, () -> Due.bit(house.give(r, a, b)), () -> Due.bit(model.give(r, a, b)));
        } else {
            compare("take" + fact, () -> Due.bit(house.take(r, a, b)), () -> Due.bit(model.take(r, a, b)));
        }
    }

    private void makeRule() {
        int literals = rarely(12) ? pick(6) : 1 + pick(3);
        boolean wild = rarely(10);
        makeHead(wild);
        for (int i = 0; i < literals; i++) {
            makeLiteral(i, wild);
        }
        // Most of what is made by chance has a fault, and shows nothing but that.
        if (model.fault() != -1 && !rarely(8)) {
            unrule();
        }
    }

    private void makeHead(boolean wild) {
        int r = wild || relations < 3 || rarely(6) ? someRelation() : 1 + pick(relations - 1);
        int a = wild ? someTerm() : rarely(8) ? pick(12) : 20 + pick(2);
        int b = wild ? someTerm() : rarely(8) ? pick(12) : 20 + pick(3);
        compare("rule(" + r + ", " + a + ", " + b + ")", () -> house.rule(r, a, b), () -> model.rule(r, a, b));
    }

    /** Those that aren't wild go from 20 by 22 to 21, or deny something of them. */
    private void makeLiteral(int index, boolean wild) {
        boolean negated = index > 0 && rarely(3) || wild && rarely(3);
        int r = wild || rarely(2) ? someRelation() : pick(2);
        int a = wild || rarely(5) ? someTerm() : negated ? 20 + pick(3) : index == 0 ? 20 : 22;
        int b = wild || rarely(5) ? someTerm() : negated ? 20 + pick(3) : index == 0 ? 21 + pick(2) : 21;
        compare("literal(" + r + ", " + a + ", " + b + ", " + negated + ")",
                () -> house.literal(r, a, b, negated), () -> model.literal(r, a, b, negated));
    }

    private void unrule() {
        compare("unrule()", () -> {
            house.unrule();
            return 0;
        }, () -> {
            model.unrule();
            return 0;
        });
    }

    private void ask() {
        int[] came = rarely(3) ? null : model.someThatCame(pick(10000));
        int r = came == null ? someRelation() : came[0];
        int a = came == null ? someConstant() : came[1];
        int b = came == null ? someConstant() : came[2];
        int what = rarely(20) ? pick(9) - 2 : pick(5);
        String fact = "(" + r + ", " + a + ", " + b + ")";
        switch (pick(8)) {
            case 0 -> compare("fault()", () -> house.fault(), () -> model.fault());
            case 1 -> compare("layer(" + r + ")", () -> house.layer(r), () -> model.layer(r));
            case 2 -> compare("count(" + r + ")", () -> house.count(r), () -> model.count(r));
            case 3, 4 -> compare("rank" + fact, () -> house.rank(r, a, b), () -> model.rank(r, a, b));
            case 5 -> compare("ways" + fact, () -> house.ways(r, a, b), () -> model.ways(r, a, b));
            default -> compare("proof" + fact + " " + what,
                    () -> house.proof(r, a, b, what), () -> model.proof(r, a, b, what));
        }
    }
}
