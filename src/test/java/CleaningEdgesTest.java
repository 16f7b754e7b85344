/** The edges that the document names in "Terms", section 10, and in the promises 39 and 40. */
public final class CleaningEdgesTest {
    private static final Due due = new Due();

    public static void main(String[] args) {
        due.runAll(CleaningEdgesTest.class);
    }

    private static void row(String what, Bakery b, int set, int price, int... recipes) {
        due.is(what + ": cleaning", price, () -> b.cleaning(set));
        for (int i = 0; i < recipes.length; i++) {
            int index = i;
            due.is(what + ": rowAt " + i, recipes[i], () -> b.rowAt(set, index));
        }
    }

    /** Promise 39, set: "the sum of 2 to the power of each recipe of it"; "something else than recipes". */
    private static void takesSetsOfRecipes() {
        for (int recipes = 0; recipes <= 6; recipes++) {
            int number = recipes;
            int all = (1 << recipes) - 1;
            due.edge("cleaning(set) of " + recipes, () -> Made.withAllergens(new int[number]),
                    (b, set) -> b.cleaning(set)).takes(0, 0).takes(all, 0).refuses(Due.ARGUMENT, all + 2, 1 << 30)
                    .refusesOutside(Due.ARGUMENT, 0, all);
        }
    }

    /** Promise 39: a set with recipes and one that there is not. */
    private static void refusesSetsWithMoreThanRecipes() {
        due.edge("cleaning(set) of three", () -> Made.withAllergens(0, 0, 0), (b, set) -> b.cleaning(set)).takes(7, 0)
                .takes(4, 0).refuses(Due.ARGUMENT, 8, 9, 15, 16, 64, -8, Integer.MIN_VALUE + 1);
        Bakery b = Made.withAllergens(0, 0, 0);
        b.undo();
        due.refuses(Due.ARGUMENT, "a recipe that was undone", b, x -> x.cleaning(4));
        due.is("those left", 0, () -> b.cleaning(3));
    }

    /** Promise 39: "0 for less than two recipes". */
    private static void cleansNothingForLessThanTwo() {
        Bakery b = Made.withAllergens(15, 15, 15, 15, 15, 15);
        row("none", b, 0, 0);
        for (int recipe = 0; recipe < 6; recipe++) {
            row("one", b, 1 << recipe, 0, recipe);
        }
        row("none without recipes", new Bakery(), 0, 0);
    }

    /** Promise 40, set: "IllegalArgumentException if set has something else than recipes". */
    private static void tellsOfSetsOfRecipes() {
        due.edge("rowAt(set, 0) of six", () -> Made.withAllergens(0, 0, 0, 0, 0, 0), (b, set) -> b.rowAt(set, 0))
                .takes(1, 0).takes(32, 5).takes(63, 0).refusesOutside(Due.ARGUMENT, 0, 63);
        due.edge("rowAt(set, 0) of one", () -> Made.withAllergens(0), (b, set) -> b.rowAt(set, 0)).takes(1, 0)
                .refuses(Due.INDEX, 0).refusesOutside(Due.ARGUMENT, 0, 1);
    }

    /** Promise 40, index: "from 0"; "IndexOutOfBoundsException if the row has not so many". */
    private static void tellsEachOfTheRow() {
        due.edge("rowAt(63, index)", () -> Made.withAllergens(0, 0, 0, 0, 0, 0), (b, index) -> b.rowAt(63, index))
                .takes(0, 0).takes(5, 5).refusesOutside(Due.INDEX, 0, 5);
        due.edge("rowAt(42, index)", () -> Made.withAllergens(0, 0, 0, 0, 0, 0), (b, index) -> b.rowAt(42, index))
                .takes(0, 1).takes(2, 5).refusesOutside(Due.INDEX, 0, 2);
        due.edge("rowAt(16, index)", () -> Made.withAllergens(0, 0, 0, 0, 0, 0), (b, index) -> b.rowAt(16, index))
                .takes(0, 4).refusesOutside(Due.INDEX, 0, 0);
        due.edge("rowAt(0, index)", () -> Made.withAllergens(0), (b, index) -> b.rowAt(0, index))
                .refuses(Due.INDEX, 0).refusesOutside(Due.INDEX, 0, 0);
    }

    /** Promise 40, with Terms 13: the set is ahead of the index. */
    private static void namesAWrongSetAheadOfAnIndex() {
        due.refuses(Due.ARGUMENT, "rowAt(4, 2)", Made.withAllergens(0, 0), b -> b.rowAt(4, 2));
        due.refuses(Due.ARGUMENT, "rowAt(-1, -1)", Made.withAllergens(0, 0), b -> b.rowAt(-1, -1));
        due.refuses(Due.ARGUMENT, "rowAt(1, 0) without recipes", new Bakery(), b -> b.rowAt(1, 0));
        due.refuses(Due.ARGUMENT, "rowAt(64, 64) of six", Made.withRecipes(6), b -> b.rowAt(64, 64));
    }

    /** Terms 10: "at the price 3, 5, 2, 4 for the allergens 0 to 3", for each one and for all of them. */
    private static void pricesEachAllergen() {
        int[] prices = {3, 5, 2, 4};
        for (int allergen = 0; allergen <= 3; allergen++) {
            int set = 1 << allergen;
            row("the allergen " + allergen, Made.withAllergens(set, 15 - set), 3, prices[allergen], 0, 1);
            row("the allergen " + allergen + " behind", Made.withAllergens(15 - set, set), 3, prices[allergen], 1, 0);
        }
        row("0 and 1, or 2 and 3", Made.withAllergens(3, 12), 3, 6, 1, 0);
        row("0 and 2, or 1 and 3", Made.withAllergens(10, 5), 3, 5, 1, 0);
        row("0 and 3, or 1 and 2: equal", Made.withAllergens(9, 6), 3, 7, 0, 1);
    }

    /** Terms 10: "each allergen of the first one that the second one has not". */
    private static void cleansWhatTheSecondHasNot() {
        row("all of both", Made.withAllergens(15, 15), 3, 0, 0, 1);
        row("more in the second", Made.withAllergens(1, 15), 3, 0, 0, 1);
        row("less in the second", Made.withAllergens(15, 1), 3, 0, 1, 0);
        row("none in the first", Made.withAllergens(0, 15), 3, 0, 0, 1);
        row("none in both", Made.withAllergens(0, 0), 3, 0, 0, 1);
    }

    /** Terms 10: "its price is the sum for all neighbours", those alone. */
    private static void sumsForNeighbours() {
        row("1, 2, 4", Made.withAllergens(1, 2, 4), 7, 5, 0, 2, 1);
        row("four without anything in common", Made.withAllergens(1, 2, 4, 8), 15, 9, 0, 2, 3, 1);
        row("over one that has all", Made.withAllergens(1, 15, 14), 7, 3, 0, 1, 2);
    }

    /** Terms 10: "of several the one that has, one after the other, the lower numbers". */
    private static void prefersLowerNumbers() {
        row("six equal ones", Made.withAllergens(7, 7, 7, 7, 7, 7), 63, 0, 0, 1, 2, 3, 4, 5);
        row("equal ones of a set", Made.withAllergens(7, 7, 7, 7, 7, 7), 58, 0, 1, 3, 4, 5);
        row("the last place differs", Made.withAllergens(0, 0, 0, 0, 1, 1), 63, 0, 0, 1, 2, 3, 4, 5);
        row("the first one must be last", Made.withAllergens(15, 7, 3, 1, 0, 0), 63, 0, 4, 5, 3, 2, 1, 0);
    }

    /** Terms 10: all six, whose row is the last one tried. */
    private static void findsTheLastOfAllRows() {
        row("543210", Made.withAllergens(9, 12, 4, 5, 3, 2), 63, 10, 5, 4, 3, 2, 1, 0);
    }
}
