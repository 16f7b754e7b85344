/** Promises 18 to 21: the heat, the decks and the rounds. */
public final class OvenTest {
    private static final Due due = new Due();

    public static void main(String[] args) {
        heats();
        setsDecks();
        bakesAtRounds();
        bakesWithinHeat();
        bakesWithinWait();
        bakesWithinPoints();
        bakesOnDecks();
        takesOut();
        refuses();
        due.end();
    }

    private static void heats() {
        Bakery b = new Bakery();
        due.is("setHeat(32)", 20, () -> b.setHeat(32));
        due.is("heat ahead of any tick", 20, () -> b.heat());
        int[] want = {25, 30, 32, 32};
        for (int heat : want) {
            b.pass(1);
            due.is("heat", heat, () -> b.heat());
        }
        due.is("setHeat(320)", 32, () -> b.setHeat(320));
        b.pass(57);
        due.is("heat", 317, () -> b.heat());
        b.pass(1);
        due.is("heat", 320, () -> b.heat());
        due.is("setHeat(20)", 320, () -> b.setHeat(20));
        b.pass(59);
        due.is("heat", 25, () -> b.heat());
        b.pass(200);
        due.is("heat", 20, () -> b.heat());
        for (int heat : new int[] {19, 321, -1, Integer.MIN_VALUE, Integer.MAX_VALUE}) {
            due.refuses(b, "setHeat " + heat, Due.ARGUMENT, () -> b.setHeat(heat));
        }
    }

    private static void setsDecks() {
        Bakery b = new Bakery();
        due.is("setDecks(1)", 2, () -> b.setDecks(1));
        due.is("setDecks(4)", 1, () -> b.setDecks(4));
        due.is("setDecks(3)", 4, () -> b.setDecks(3));
        due.refuses(b, "setDecks(0)", Due.ARGUMENT, () -> b.setDecks(0));
        due.refuses(b, "setDecks(5)", Due.ARGUMENT, () -> b.setDecks(5));
        due.is("setDecks(3)", 3, () -> b.setDecks(3));
    }

    /** An oven of 120 at the tick 20, and a cold warmth, so that points stay. */
    private static Bakery hot(int recipeHeat, int doughs) {
        Bakery b = Due.withRecipe(50, 1, 200, recipeHeat);
        b.setHeat(120);
        b.pass(19);
        for (int i = 0; i < doughs; i++) {
            b.mix(0, i + 1);
        }
        b.pass(1);
        b.setWarmth(0);
        return b;
    }

    private static void bakesAtRounds() {
        Bakery b = hot(120, 3);
        due.is("bake at 20", 30, () -> b.bake(0));
        due.is("state", OvenRound.BAKING, () -> b.doughAt(0, 3));
        due.is("went in at", 20, () -> b.doughAt(0, 6));
        due.is("shaped at", OvenRound.NONE, () -> b.doughAt(0, 5));
        for (int tick = 21; tick < 30; tick++) {
            b.pass(1);
            due.refuses(b, "bake at " + tick, Due.STATE, () -> b.bake(1));
        }
        b.pass(1);
        due.is("bake at 30", 40, () -> b.bake(1));
    }

    private static void bakesWithinHeat() {
        for (int least = 119; least <= 121; least++) {
            Bakery b = hot(least, 1);
            due.is("oven 120, recipe " + least, least <= 120 ? 30 : "throws IllegalStateException",
                    () -> b.bake(0));
        }
        for (int more = 39; more <= 41; more++) {
            Bakery b = Due.withRecipe(50, 1, 200, 100);
            b.setHeat(100 + more);
            b.mix(0, 1);
            b.pass(30);
            due.is(more + " more", more <= 40 ? 40 : "throws IllegalStateException", () -> b.bake(0));
        }
    }

    private static void bakesWithinWait() {
        for (int wait = 9; wait <= 11; wait++) {
            Bakery b = hot(120, 1);
            b.setWait(0, wait);
            b.shape(0);
            b.pass(10);
            due.is("10 ticks with the wait " + wait, wait >= 10 ? 40 : "throws IllegalStateException",
                    () -> b.bake(0));
        }
        Bakery now = hot(120, 1);
        now.setWait(0, 0);
        now.shape(0);
        due.is("bake at once with the wait 0", 30, () -> now.bake(0));
        due.is("shaped at", 20, () -> now.doughAt(0, 5));
    }

    private static void bakesWithinPoints() {
        for (int warm = 0; warm <= 7; warm++) {
            Bakery b = Due.withRecipe(50, 2, 5, 120);
            b.setHeat(120);
            b.setWarmth(1);
            b.pass(30 - warm);
            b.mix(0, 1);
            if (warm > 0) {
                b.pass(warm);
            }
            due.is("RISING with " + warm + " points",
                    warm >= 2 && warm <= 5 ? 40 : "throws IllegalStateException", () -> b.bake(0));
        }
    }

    private static void bakesOnDecks() {
        for (int decks = 1; decks <= 4; decks++) {
            Bakery b = hot(120, 6);
            b.setDecks(decks);
            b.shape(0);
            for (int dough = 0; dough < decks; dough++) {
                int asked = dough;
                due.is("bake " + dough + " of " + decks, 30, () -> b.bake(asked));
            }
            due.refuses(b, "no deck is left of " + decks, Due.STATE, () -> b.bake(5));
            b.pass(10);
            due.is("bake in the next round", 40, () -> b.bake(5));
        }
        Bakery b = hot(120, 4);
        b.bake(3);
        b.setDecks(1);
        due.refuses(b, "the one deck has a dough", Due.STATE, () -> b.bake(0));
        b.setDecks(2);
        due.is("bake(0)", 30, () -> b.bake(0));
    }

    private static void takesOut() {
        Bakery b = hot(120, 3);
        b.bake(1);
        b.bake(2);
        b.setWarmth(2);
        b.pass(9);
        due.is("state at 29", OvenRound.BAKING, () -> b.doughAt(2, 3));
        due.is("breads at 29", 0, () -> b.breads(0, 0));
        due.is("book(5) at 29", 250, () -> b.book(5));
        b.pass(1);
        due.is("state at 30", OvenRound.BAKED, () -> b.doughAt(2, 3));
        due.is("state of the one outside", OvenRound.RISING, () -> b.doughAt(0, 3));
        due.is("breads at 30", 5, () -> b.breads(0, 0));
        due.is("points", 2, () -> b.doughAt(2, 2));
        due.is("went in at", 20, () -> b.doughAt(2, 6));
        b.pass(200);
        due.is("breads later", 5, () -> b.breads(0, 0));
    }

    private static void refuses() {
        Bakery b = hot(120, 3);
        due.refuses(b, "bake(3)", Due.INDEX, () -> b.bake(3));
        due.refuses(b, "bake(-1)", Due.INDEX, () -> b.bake(-1));
        b.throwAway(2);
        due.refuses(b, "bake a THROWN one", Due.STATE, () -> b.bake(2));
        b.bake(0);
        due.refuses(b, "bake a BAKING one", Due.STATE, () -> b.bake(0));
        b.pass(10);
        due.refuses(b, "bake a BAKED one", Due.STATE, () -> b.bake(0));
    }
}
