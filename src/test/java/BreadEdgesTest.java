/** The edges that the document names in "Terms", section 6, and in the promises 25 to 28. */
public final class BreadEdgesTest {
    private static final Due due = new Due();

    public static void main(String[] args) {
        due.runAll(BreadEdgesTest.class);
    }

    private static void ages(String what, Bakery b, int... want) {
        for (int age = 0; age <= 3; age++) {
            int asked = age;
            due.is(what + ": breads(0, " + age + ")", want[age], () -> b.breads(0, asked));
        }
    }

    /** 80000 grams in a bread of 2000 grams each: 40 times so many as told. */
    private static Bakery withManyGrams(int doughs) {
        Bakery b = new Bakery();
        b.addRecipe(2000, 1, 200, 100, 0);
        b.setPart(0, 0, 1);
        b.setHeat(100);
        b.setDecks(4);
        b.pass(10);
        for (int dough = 0; dough < doughs; dough++) {
            b.receive(0, 80000);
            b.mix(0, 40);
            b.pass(10);
            b.bake(dough);
            b.pass(10);
        }
        return b;
    }

    /** Promise 25, recipe: "number of a recipe". */
    private static void countsBreadsOfARecipe() {
        due.refuses(Due.INDEX, "breads(0, 0) without recipes", new Bakery(), b -> b.breads(0, 0));
        due.edge("breads(recipe, 0) of two", () -> Made.baked(7), (b, recipe) -> b.breads(recipe, 0)).takes(0, 7)
                .takes(1, 0).refusesOutside(Due.INDEX, 0, 1);
        due.edge("breads(recipe, 0) of six", () -> Made.withRecipes(6), (b, recipe) -> b.breads(recipe, 0))
                .takes(5, 0).refusesOutside(Due.INDEX, 0, 5);
    }

    /** Promise 25, age: "0 to 3". */
    private static void countsBreadsOfAnAge() {
        due.edge("breads(0, age)", () -> Made.baked(4, 3, 2, 1), (b, age) -> b.breads(0, age)).takes(0, 1).takes(3, 4)
                .refusesOutside(Due.ARGUMENT, 0, 3);
    }

    /** Promise 25, with Terms 13: no such recipe is ahead of an age out of range. */
    private static void namesAWrongRecipeAheadOfAnAge() {
        due.refuses(Due.INDEX, "breads(2, 4)", Made.baked(1), b -> b.breads(2, 4));
        due.refuses(Due.INDEX, "breads(-1, -1)", Made.baked(1), b -> b.breads(-1, -1));
    }

    /** Terms 6: "As a day ends, all get 1 older". */
    private static void growsOlder() {
        Bakery b = Made.baked(7);
        ages("baked", b, 7, 0, 0, 0);
        due.is("endDay", 0, () -> b.endDay());
        ages("a day later", b, 0, 7, 0, 0);
        b.endDay();
        ages("two days later", b, 0, 0, 7, 0);
        b.endDay();
        ages("three days later", b, 0, 0, 0, 7);
    }

    /** Terms 6: "those older than 3 are thrown away": the age 3 stays, the age 4 does not. */
    private static void throwsOldBreadsAway() {
        Bakery b = Made.baked(7, 0, 0);
        due.is("as they get the age 3", 0, () -> b.endDay());
        due.is("as they get the age 4", 7, () -> b.endDay());
        ages("thrown away", b, 0, 0, 0, 0);
        due.is("book 2", 350, () -> b.book(2));
        due.is("a day later", 0, () -> b.endDay());
        due.is("book 2 a day later", 350, () -> b.book(2));
    }

    /** Terms 6: "those older than 3", of all ages at once. */
    private static void throwsTheOldestOfEachAgeAway() {
        Bakery b = Made.baked(4, 3, 2, 1);
        due.is("endDay", 4, () -> b.endDay());
        ages("a day later", b, 0, 1, 2, 3);
        due.is("endDay", 3, () -> b.endDay());
    }

    /** Promise 26: "Returns how many breads were thrown away by this": 0 if there are none, and of all recipes. */
    private static void countsOldBreadsOfAllRecipes() {
        due.is("without recipes", 0, new Bakery(), b -> b.endDay());
        due.is("without breads", 0, Made.withRecipes(6), b -> b.endDay());
        Bakery b = Made.withRecipes(6);
        b.setHeat(100);
        b.pass(10);
        b.mix(0, 2);
        b.mix(5, 3);
        b.pass(10);
        b.bake(0);
        b.bake(1);
        b.pass(10);
        b.endDay();
        b.endDay();
        b.endDay();
        due.is("of the first and the last recipe", 5, () -> b.endDay());
        due.is("book 2", 250, () -> b.book(2));
    }

    /** Promise 27, recipe: "number of a recipe". */
    private static void sellsARecipe() {
        due.refuses(Due.INDEX, "sell(0, 1) without recipes", new Bakery(), b -> b.sell(0, 1));
        due.edge("sell(recipe, 1) of two", () -> Made.baked(7), (b, recipe) -> b.sell(recipe, 1)).takes(0, 0)
                .refuses(Due.STATE, 1).refusesOutside(Due.INDEX, 0, 1);
    }

    /** Promise 27, pieces: "1 to 99". */
    private static void sellsPieces() {
        due.edge("sell(0, pieces) of 120", () -> Made.baked(40, 40, 40), (b, pieces) -> b.sell(0, pieces)).takes(1, 2)
                .takes(99, 2).refuses(Due.ARGUMENT, -1).refusesOutside(Due.ARGUMENT, 1, 99);
    }

    /** Promise 27: "IllegalStateException if there are fewer breads of it": all of them, and one more. */
    private static void sellsTheLastBread() {
        due.edge("sell(0, pieces) of 10", () -> Made.baked(1, 2, 3, 4), (b, pieces) -> b.sell(0, pieces)).takes(9, 3)
                .takes(10, 3).refuses(Due.STATE, 11, 99);
        due.edge("sell(0, pieces) of none", () -> Made.withRecipes(1), (b, pieces) -> b.sell(0, pieces))
                .refuses(Due.STATE, 1, 99);
        Bakery b = Made.baked(3);
        b.sell(0, 3);
        due.refuses(Due.STATE, "behind the last one", b, x -> x.sell(0, 1));
    }

    /** Promise 27: "if there are fewer breads of it", those of other recipes do not count. */
    private static void sellsNoBreadOfAnotherRecipe() {
        due.refuses(Due.STATE, "sell(1, 1)", Made.baked(7), b -> b.sell(1, 1));
    }

    /** Terms 6: "Breads are sold, the oldest first", and not one more of an age than is needed. */
    private static void sellsTheOldestFirst() {
        int[][] left = {{4, 3, 2, 0}, {4, 3, 1, 0}, {4, 3, 0, 0}, {4, 2, 0, 0}, {4, 1, 0, 0}, {4, 0, 0, 0},
            {3, 0, 0, 0}};
        for (int pieces = 1; pieces <= 7; pieces++) {
            int sold = pieces;
            Bakery b = Made.baked(1, 2, 3, 4);
            due.is("sell(0, " + pieces + ")", 3, () -> b.sell(0, sold));
            ages("sold " + pieces, b, left[pieces - 1]);
        }
    }

    /** Promise 27: "Returns the greatest age of one that was sold", for each age. */
    private static void tellsTheGreatestAgeSold() {
        due.is("of the age 0 alone", 0, Made.baked(0, 0, 0, 5), b -> b.sell(0, 5));
        due.is("of the age 1 on", 1, Made.baked(0, 0, 2, 5), b -> b.sell(0, 3));
        due.is("of the age 2 on", 2, Made.baked(0, 1, 0, 5), b -> b.sell(0, 6));
        due.is("of the age 3 on", 3, Made.baked(1, 0, 0, 5), b -> b.sell(0, 1));
    }

    /** Promise 27, with Terms 13: the recipe is ahead of the pieces, the pieces ahead of too few breads. */
    private static void namesSellingFaultsInTheirOrder() {
        due.refuses(Due.INDEX, "sell(2, 0)", Made.baked(1), b -> b.sell(2, 0));
        due.refuses(Due.INDEX, "sell(-1, 100)", Made.baked(1), b -> b.sell(-1, 100));
        due.refuses(Due.INDEX, "sell(2, 9)", Made.baked(1), b -> b.sell(2, 9));
        due.refuses(Due.ARGUMENT, "sell(0, 100)", Made.baked(1), b -> b.sell(0, 100));
        due.refuses(Due.ARGUMENT, "sell(1, 0)", Made.baked(1), b -> b.sell(1, 0));
    }

    /** Promise 28, recipe: "number of a recipe". */
    private static void crumblesARecipe() {
        due.refuses(Due.INDEX, "crumble(0) without recipes", new Bakery(), b -> b.crumble(0));
        due.edge("crumble(recipe) of two", () -> Made.baked(7, 0), (b, recipe) -> b.crumble(recipe)).takes(0, 350)
                .takes(1, 0).refusesOutside(Due.INDEX, 0, 1);
    }

    /** Promise 28: "all breads of a recipe that are of the age 1 or more": the age 0 stays. */
    private static void crumblesFromTheAgeOneOn() {
        int[] want = {0, 350, 350, 350};
        int[][] baked = {{7}, {7, 0}, {7, 0, 0}, {7, 0, 0, 0}};
        for (int age = 0; age <= 3; age++) {
            Bakery b = Made.baked(baked[age]);
            due.is("crumble of the age " + age, want[age], () -> b.crumble(0));
            ages("crumbled of the age " + age, b, age == 0 ? 7 : 0, 0, 0, 0);
            due.is("store(7)", want[age], () -> b.store(7));
        }
        Bakery all = Made.baked(1, 2, 3, 4);
        due.is("crumble of all ages", 300, () -> all.crumble(0));
        ages("crumbled of all ages", all, 4, 0, 0, 0);
    }

    /** Promise 28: "how many grams of crumbs came to the store by this": none of an earlier call, none of none. */
    private static void crumblesNothing() {
        Bakery b = Made.baked(7, 0);
        due.is("the first time", 350, () -> b.crumble(0));
        due.is("again", 0, () -> b.crumble(0));
        due.is("store(7)", 350, () -> b.store(7));
        due.is("without breads", 0, Made.withRecipes(6), x -> x.crumble(5));
    }

    /** Terms 6: "all their grams come to the store as crumbs", also above the 1000000 of promise 2. */
    private static void crumblesAboveWhatCanBeReceived() {
        Bakery b = withManyGrams(20);
        b.endDay();
        due.is("crumble(0)", 1600000, () -> b.crumble(0));
        due.is("store(7)", 1600000, () -> b.store(7));
        due.is("book 3", 1600000, () -> b.book(3));
        due.refuses(Due.ARGUMENT, "receive(7, 1)", b, x -> x.receive(7, 1));
    }
}
