import java.util.List;

/** What the document tells of a recipe holds for each one by its own numbers, and leaves the others alone. */
public final class RecipesApartTest {
    private static final Due due = new Due();
    private static final int NONE = OvenRound.NONE;

    public static void main(String[] args) {
        due.runAll(RecipesApartTest.class);
    }

    /** The recipes 0 to 5 with 50, 60, .. 100 grams a piece, of one part of the flour 0. */
    private static Bakery withSix() {
        Bakery b = new Bakery();
        for (int recipe = 0; recipe < 6; recipe++) {
            b.addRecipe(grams(recipe), 1, 200, 100, 0);
            b.setPart(recipe, 0, 1);
        }
        b.receive(0, 200000);
        return b;
    }

    private static int grams(int recipe) {
        return 50 + 10 * recipe;
    }

    /** The recipes with 1, 2, .. 6 breads of the age 1, and 9 of the age 0 each. */
    private static Bakery withSixBaked() {
        Bakery b = withSix();
        b.setHeat(100);
        b.setDecks(3);
        b.pass(19);
        bakeSix(b, 1, 1);
        b.endDay();
        b.pass(9);
        bakeSix(b, 9, 0);
        return b;
    }

    /** At the tick ahead of a round. */
    private static void bakeSix(Bakery b, int first, int more) {
        int dough = b.doughCount();
        for (int recipe = 0; recipe < 6; recipe++) {
            b.mix(recipe, first + more * recipe);
        }
        b.pass(1);
        for (int i = 0; i < 6; i++) {
            b.bake(dough + i);
            if (i % 3 == 2) {
                b.pass(10);
            }
        }
    }

    private static void breads(String what, Bakery b, int recipe, int young, int old) {
        due.is(what + ": breads(" + recipe + ", 0)", young, () -> b.breads(recipe, 0));
        due.is(what + ": breads(" + recipe + ", 1)", old, () -> b.breads(recipe, 1));
    }

    /** Those of all other recipes are still there. */
    private static void otherBreads(String what, Bakery b, int but) {
        for (int recipe = 0; recipe < 6; recipe++) {
            if (recipe != but) {
                breads(what, b, recipe, 9, recipe + 1);
            }
        }
    }

    private static void book(String what, Bakery b, int number, int want) {
        due.is(what + ": book " + number, want, () -> b.book(number));
    }

    /** Terms 2: "divided by the sum of all parts of the recipe". */
    private static void scalesByPartsOfTheRecipe() {
        Bakery b = withSix();
        for (int recipe = 0; recipe < 6; recipe++) {
            b.setPart(recipe, recipe + 1, recipe + 1);
        }
        for (int recipe = 0; recipe < 6; recipe++) {
            int asked = recipe;
            int flour = 420 / (recipe + 2);
            for (int good = 0; good <= 7; good++) {
                int askedGood = good;
                int want = good == 0 ? flour : good == recipe + 1 ? 420 - flour : 0;
                due.is("amount(" + recipe + ", 420, " + good + ")", want, () -> b.amount(asked, 420, askedGood));
            }
        }
    }

    /** Promises 8 and 10: "if the recipe has no parts", though another one has. */
    private static void needsPartsOfTheRecipe() {
        for (int recipe = 0; recipe < 6; recipe++) {
            int asked = recipe;
            Bakery without = withSix();
            without.setPart(recipe, 0, 0);
            due.refuses(Due.STATE, "amount of " + recipe + " alone without parts", without, b -> b.amount(asked, 9, 0));
            due.refuses(Due.STATE, "mix of " + recipe + " alone without parts", without, b -> b.mix(asked, 1));
            Bakery with = Made.withAllergens(0, 0, 0, 0, 0, 0);
            with.receive(3, 50);
            with.setPart(recipe, 3, 1);
            due.is("amount of " + recipe + " alone with parts", 9, () -> with.amount(asked, 9, 3));
            due.is("mix of " + recipe + " alone with parts", 0, () -> with.mix(asked, 1));
            due.is("store(3)", 0, () -> with.store(3));
        }
    }

    /** Promises 5 and 6: "Returns the wait before", "the parts before", of this recipe. */
    private static void setsWaitAndPartsOfTheRecipe() {
        Bakery b = withSix();
        for (int recipe = 0; recipe < 6; recipe++) {
            b.setWait(recipe, 30 + recipe);
            b.setPart(recipe, 7, 70 + recipe);
        }
        for (int recipe = 0; recipe < 6; recipe++) {
            int asked = recipe;
            due.is("the wait of " + recipe, 30 + recipe, () -> b.setWait(asked, 0));
            due.is("the parts of " + recipe, 70 + recipe, () -> b.setPart(asked, 7, 0));
        }
    }

    /** Promise 7: "the goods that it tells get these parts in a recipe, all others 0": in this one alone. */
    private static void readsPartsOfTheRecipe() {
        for (int recipe = 0; recipe < 6; recipe++) {
            int asked = recipe;
            Bakery b = withSix();
            Due.type(b, "2:3,7:4");
            due.is("readParts(" + recipe + ")", 7, () -> b.readParts(asked));
            for (int other = 0; other < 6; other++) {
                int askedToo = other;
                due.is("flour of " + other, other == recipe ? 0 : 1, () -> b.setPart(askedToo, 0, 0));
                due.is("crumbs of " + other, other == recipe ? 4 : 0, () -> b.setPart(askedToo, 7, 0));
            }
        }
    }

    /** Terms 3: "scaled to its pieces times the grams of a piece", of its recipe. */
    private static void makesDoughsByThePieceOfTheRecipe() {
        for (int recipe = 0; recipe < 6; recipe++) {
            int asked = recipe;
            int grams = 3 * grams(recipe);
            Bakery b = withSix();
            b.mix(recipe, 3);
            due.is("grams of " + recipe, grams, () -> b.doughAt(0, 4));
            due.is("recipe of " + recipe, asked, () -> b.doughAt(0, 0));
            book("made of " + recipe, b, 4, grams);
            book("made of " + recipe, b, 3, 200000 - grams);
        }
    }

    /** A dough of each recipe with the bounds told, at the tick told, all with as many points as ticks. */
    private static Bakery withBounds(int tick, int... bounds) {
        Bakery b = new Bakery();
        b.receive(0, 200000);
        for (int recipe = 0; recipe < bounds.length / 2; recipe++) {
            b.addRecipe(50, bounds[2 * recipe], bounds[2 * recipe + 1], 100, 0);
            b.setPart(recipe, 0, 1);
            b.mix(recipe, 1);
        }
        b.setHeat(100);
        b.setWarmth(1);
        b.pass(tick);
        return b;
    }

    /** Promise 14: "or its points are not within the bounds of its recipe": of the first, or of a later one. */
    private static void shapesByTheBoundsOfTheRecipe() {
        int[] bounds = {1, 19, 20, 20, 21, 200, 1, 20, 20, 200};
        List<Integer> ripe = List.of(1, 3, 4);
        for (int dough = 0; dough < 5; dough++) {
            int asked = dough;
            Bakery b = withBounds(20, bounds);
            if (ripe.contains(dough)) {
                due.is("shape(" + dough + ")", 20, () -> b.shape(asked));
            } else {
                due.refuses(Due.STATE, "shape(" + dough + ")", b, x -> x.shape(asked));
            }
        }
    }

    /** Terms 4: "or RISING with points within the bounds", those of its recipe. */
    private static void bakesByTheBoundsOfTheRecipe() {
        int[] bounds = {1, 19, 20, 20, 21, 200, 1, 20, 20, 200};
        List<Integer> ripe = List.of(1, 3, 4);
        for (int dough = 0; dough < 5; dough++) {
            int asked = dough;
            Bakery b = withBounds(20, bounds);
            if (ripe.contains(dough)) {
                due.is("bake(" + dough + ")", 30, () -> b.bake(asked));
            } else {
                due.refuses(Due.STATE, "bake(" + dough + ")", b, x -> x.bake(asked));
            }
        }
    }

    /** Doughs of six recipes that were shaped at the tick 20; it is the tick told. */
    private static Bakery withWaits(int tick, int... waits) {
        Bakery b = withBounds(20, 1, 200, 1, 200, 1, 200, 1, 200, 1, 200, 1, 200);
        for (int i = 0; i < waits.length; i++) {
            b.setWait(i, waits[i]);
            b.shape(i);
        }
        b.pass(tick - 20);
        return b;
    }

    /** Terms 4: "at most its recipe's wait ago". */
    private static void bakesByTheWaitOfTheRecipe() {
        int[] waits = {9, 10, 0, 99, 9, 10};
        for (int dough = 0; dough < 6; dough++) {
            int asked = dough;
            Bakery b = withWaits(30, waits);
            if (waits[dough] >= 10) {
                due.is("bake(" + dough + ")", 40, () -> b.bake(asked));
            } else {
                due.refuses(Due.STATE, "bake(" + dough + ")", b, x -> x.bake(asked));
            }
        }
    }

    /** Terms 5: "of a WAITING one, the present tick and that at which it was shaped plus the wait", its recipe's. */
    private static void plansByTheWaitOfTheRecipe() {
        int[] want = {NONE, 40, NONE, 50, NONE, 40};
        Bakery b = withWaits(35, 14, 20, 15, 99, 19, 25);
        due.is("inPlan", 5, () -> b.inPlan());
        due.is("late", 2, () -> b.late());
        for (int dough = 0; dough < 6; dough++) {
            int asked = dough;
            due.is("planned(" + dough + ")", want[dough], () -> b.planned(asked));
        }
    }

    /** Terms 4: "the heat of the oven is at least that of the recipe, and at most 40 more". */
    private static void bakesByTheHeatOfTheRecipe() {
        int[] heats = {109, 110, 150, 151, 300, 100};
        for (int dough = 0; dough < 6; dough++) {
            int asked = dough;
            Bakery b = new Bakery();
            b.receive(0, 600);
            for (int recipe = 0; recipe < 6; recipe++) {
                b.addRecipe(50, 1, 200, heats[recipe], 0);
                b.setPart(recipe, 0, 1);
                b.mix(recipe, 1);
            }
            b.setHeat(150);
            b.pass(30);
            if (heats[dough] >= 110 && heats[dough] <= 150) {
                due.is("bake(" + dough + ")", 40, () -> b.bake(asked));
            } else {
                due.refuses(Due.STATE, "bake(" + dough + ")", b, x -> x.bake(asked));
            }
        }
    }

    /** Promise 25: "Returns how many breads there are", and promise 41: "6 in breads", by the piece of each recipe. */
    private static void countsBreadsOfTheRecipe() {
        Bakery b = withSixBaked();
        otherBreads("baked", b, NONE);
        // Of each recipe 9 young breads and one old one more than of the recipe ahead of it.
        book("baked", b, 6, 10 * 50 + 11 * 60 + 12 * 70 + 13 * 80 + 14 * 90 + 15 * 100);
        due.is("errors", 0, () -> b.errors());
        due.is("meanAge", 21.0 / 75.0, () -> b.meanAge());
    }

    /** Promises 27 and 41: "Sells breads" of the recipe by its piece, and of no other one. */
    private static void sellsBreadsOfTheRecipe() {
        for (int recipe = 0; recipe < 6; recipe++) {
            int asked = recipe;
            Bakery b = withSixBaked();
            due.is("sell(" + recipe + ")", 1, () -> b.sell(asked, asked + 3));
            breads("sold of " + recipe, b, recipe, 7, 0);
            otherBreads("sold of " + recipe, b, recipe);
            book("sold of " + recipe, b, 1, (recipe + 3) * grams(recipe));
            due.is("errors", 0, () -> b.errors());
            b.undo();
            otherBreads("undone", b, NONE);
            book("undone", b, 1, 0);
            due.refuses(Due.STATE, "one too many of " + recipe, b, x -> x.sell(asked, asked + 11));
        }
    }

    /** Promise 28: "Makes crumbs of all breads of a recipe", by its piece, and of no other one. */
    private static void crumblesBreadsOfTheRecipe() {
        for (int recipe = 0; recipe < 6; recipe++) {
            int asked = recipe;
            int grams = (recipe + 1) * grams(recipe);
            Bakery b = withSixBaked();
            due.is("crumble(" + recipe + ")", grams, () -> b.crumble(asked));
            breads("crumbled of " + recipe, b, recipe, 9, 0);
            otherBreads("crumbled of " + recipe, b, recipe);
            due.is("store(7)", grams, () -> b.store(7));
            due.is("errors", 0, () -> b.errors());
            b.undo();
            otherBreads("undone", b, NONE);
            due.is("store(7) undone", 0, () -> b.store(7));
        }
    }

    /** Terms 6: "those older than 3 are thrown away", by the piece of each recipe. */
    private static void throwsBreadsOfEachRecipeAway() {
        Bakery b = withSixBaked();
        due.is("as the old ones get the age 2", 0, () -> b.endDay());
        due.is("the age 3", 0, () -> b.endDay());
        due.is("the age 4", 21, () -> b.endDay());
        int old = 50 + 2 * 60 + 3 * 70 + 4 * 80 + 5 * 90 + 6 * 100;
        book("the old ones", b, 2, old);
        due.is("as the young ones get the age 4", 54, () -> b.endDay());
        book("all", b, 2, old + 9 * 450);
        book("all", b, 6, 0);
    }

    private static int lossOf(int number, int note, int over, int under) {
        return number > note ? over * (number - note) : under * (note - number);
    }

    /** Terms 8: "Of each recipe it can be noted how many pieces were wanted", less or more than of the first one. */
    private static void findsTheBestNumberOfTheRecipe() {
        for (int step : new int[] {-10, 10}) {
            int first = step < 0 ? 90 : 0;
            Bakery b = withSix();
            for (int recipe = 0; recipe < 6; recipe++) {
                b.note(recipe, first + step * recipe);
                b.note(recipe, first + step * recipe + 1);
            }
            for (int recipe = 0; recipe < 6; recipe++) {
                int asked = recipe;
                int least = first + step * recipe;
                due.is("bestNumber(" + recipe + ", 2, 1)", least, () -> b.bestNumber(asked, 2, 1));
                due.is("bestNumber(" + recipe + ", 1, 2)", least + 1, () -> b.bestNumber(asked, 1, 2));
                due.is("loss(" + recipe + ", 50, 3, 5)", lossOf(50, least, 3, 5) + lossOf(50, least + 1, 3, 5),
                        () -> b.loss(asked, 50, 3, 5));
            }
        }
    }
}
