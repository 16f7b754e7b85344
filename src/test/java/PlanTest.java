/** Promises 22 to 24: the plan. */
public final class PlanTest {
    private static final Due due = new Due();

    public static void main(String[] args) {
        plansByPoints();
        plansByWait();
        plansWithoutPoints();
        plansManyWithoutEnd();
        prefersLeastLast();
        looksAtStatesAlone();
        plansBehindTheLastTick();
        refuses();
        due.end();
    }

    private static void is(Bakery b, String what, int inPlan, int late, int... rounds) {
        due.is(what + ": inPlan", inPlan, () -> b.inPlan());
        due.is(what + ": late", late, () -> b.late());
        for (int i = 0; i < rounds.length; i++) {
            int dough = i;
            due.is(what + ": planned " + i, rounds[i], () -> b.planned(dough));
        }
    }

    private static Bakery rising(int low, int high) {
        Bakery b = Due.withRecipe(50, low, high, 100);
        b.mix(0, 1);
        return b;
    }

    private static void plansByPoints() {
        is(rising(1, 200), "from the tick 1 on", 1, 0, 10);
        is(rising(20, 20), "10 ticks for 20 points", 1, 0, 10);
        is(rising(19, 19), "19 points are skipped", 0, 0, -1);
        is(rising(21, 22), "11 ticks", 1, 1, -1);
        is(rising(19, 39), "the tick 10 to 19", 1, 0, 10);
        is(rising(21, 39), "the tick 11 to 19", 1, 1, -1);
        is(rising(21, 40), "the tick 11 to 20", 1, 0, 20);
        is(rising(21, 41), "the tick 11 to 20", 1, 0, 20);
        is(rising(200, 200), "the tick 100", 1, 0, 100);
        Bakery slow = rising(200, 200);
        slow.setWarmth(1);
        is(slow, "the tick 200", 1, 0, 200);
        slow.pass(5);
        is(slow, "the tick 200 from the tick 5 on", 1, 0, 200);
        Bakery b = rising(1, 9);
        b.pass(5);
        is(b, "points above the high bound", 0, 0, -1);
        Bakery ripe = rising(1, 40);
        ripe.pass(10);
        is(ripe, "the present tick counts", 1, 0, 10);
        ripe.pass(1);
        is(ripe, "a begun round does not", 1, 0, 20);
        ripe.pass(9);
        is(ripe, "just the high bound", 1, 0, 20);
        ripe.pass(1);
        is(ripe, "above it", 0, 0, -1);
    }

    private static void plansByWait() {
        Bakery b = rising(1, 200);
        b.pass(5);
        b.shape(0);
        b.setWait(0, 4);
        is(b, "waits till 9", 1, 1, -1);
        b.setWait(0, 5);
        is(b, "waits till 10", 1, 0, 10);
        b.pass(5);
        is(b, "waits till now", 1, 0, 10);
        b.pass(1);
        is(b, "wait is over", 0, 0, -1);
        b.setWait(0, 99);
        is(b, "waits till 104", 1, 0, 20);
    }

    private static void plansWithoutPoints() {
        Bakery b = rising(2, 9);
        b.setWarmth(0);
        is(b, "0 points", 0, 0, -1);
        b.setWarmth(1);
        b.pass(2);
        b.setWarmth(0);
        is(b, "the low bound, for ever", 1, 0, 10);
        b.setWarmth(2);
        b.pass(4);
        b.setWarmth(0);
        is(b, "above the high bound", 0, 0, -1);
    }

    private static void plansManyWithoutEnd() {
        Bakery b = Due.withRecipe(50, 1, 200, 100);
        for (int i = 0; i < 20; i++) {
            b.mix(0, 1);
        }
        b.pass(1);
        b.setWarmth(0);
        b.setDecks(1);
        due.is("inPlan", 20, () -> b.inPlan());
        due.is("late", 0, () -> b.late());
        for (int i = 0; i < 20; i++) {
            int dough = i;
            due.is("planned " + i, 10 + 10 * i, () -> b.planned(dough));
        }
        b.setDecks(4);
        due.is("planned(3)", 10, () -> b.planned(3));
        due.is("planned(4)", 20, () -> b.planned(4));
        due.is("planned(19)", 50, () -> b.planned(19));
    }

    private static void prefersLeastLast() {
        Bakery b = Due.withRecipe(50, 1, 100, 100);
        b.addRecipe(50, 1, 30, 100, 0);
        b.setPart(1, 0, 1);
        b.addRecipe(50, 21, 60, 100, 0);
        b.setPart(2, 0, 1);
        for (int recipe : new int[] {0, 0, 1, 2, 1, 1}) {
            b.mix(recipe, 1);
        }
        is(b, "two decks", 6, 1, 20, 30, 10, 20, 10, -1);
        b.setDecks(1);
        is(b, "one deck", 6, 2, 30, 40, 10, 20, -1, -1);
        b.setDecks(3);
        is(b, "three decks", 6, 0, 20, 20, 10, 20, 10, 10);
    }

    private static void looksAtStatesAlone() {
        Bakery b = Due.withRecipe(50, 1, 200, 100);
        for (int i = 0; i < 4; i++) {
            b.mix(0, 1);
        }
        b.setHeat(100);
        b.pass(20);
        b.setDecks(1);
        b.bake(0);
        b.throwAway(1);
        is(b, "a BAKING dough does not matter", 2, 0, -1, -1, 20, 30);
        b.pass(10);
        is(b, "nor does a BAKED one", 2, 0, -1, -1, 30, 40);
    }

    private static void plansBehindTheLastTick() {
        Bakery b = Due.withRecipe(50, 1, 200, 100);
        for (int i = 0; i < 500; i++) {
            b.pass(200);
        }
        b.mix(0, 1);
        is(b, "at the tick 100000", 1, 0, 100010);
    }

    private static void refuses() {
        Bakery b = rising(1, 9);
        due.refuses(b, "planned(1)", Due.INDEX, () -> b.planned(1));
        due.refuses(b, "planned(-1)", Due.INDEX, () -> b.planned(-1));
    }
}
