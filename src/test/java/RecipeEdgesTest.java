/** The edges that the document names in "Terms", section 2, and in the promises 4 to 9 (7 also in TextEdgesTest). */
public final class RecipeEdgesTest {
    private static final Due due = new Due();

    public static void main(String[] args) {
        due.runAll(RecipeEdgesTest.class);
    }

    private static Bakery withParts(int... parts) {
        Bakery b = new Bakery();
        b.addRecipe(50, 1, 200, 100, 0);
        for (int good = 0; good < parts.length; good++) {
            b.setPart(0, good, parts[good]);
        }
        return b;
    }

    private static void amounts(Bakery b, int grams, int... want) {
        for (int good = 0; good <= 7; good++) {
            int asked = good;
            due.is("amount of " + good + " in " + grams, want[good], () -> b.amount(0, grams, asked));
        }
    }

    /** Terms 2: "There are at most 6 recipes, numbered from 0"; promise 4: "if there are 6 recipes". */
    private static void addsSixRecipes() {
        Bakery b = new Bakery();
        for (int number = 0; number < 6; number++) {
            int want = number;
            due.is("recipe " + number, want, () -> b.addRecipe(50, 1, 1, 100, 0));
        }
        due.refuses(Due.STATE, "the recipe 6", b, x -> x.addRecipe(50, 1, 1, 100, 0));
    }

    /** Promise 4: "IllegalStateException if there are 6 recipes": one that is undone makes room. */
    private static void addsTheSixthAgainBehindUndo() {
        Bakery b = Made.withAllergens(0, 0, 0, 0, 0, 0);
        b.undo();
        due.is("the recipe 5 again", 5, () -> b.addRecipe(50, 1, 1, 100, 0));
        due.refuses(Due.STATE, "the recipe 6", b, x -> x.addRecipe(50, 1, 1, 100, 0));
    }

    /** Promise 4, with Terms 13: a number out of range is ahead of the 6 recipes. */
    private static void namesAWrongNumberAheadOfSixRecipes() {
        Bakery b = Made.withAllergens(0, 0, 0, 0, 0, 0);
        due.refuses(Due.ARGUMENT, "piece 49", b, x -> x.addRecipe(49, 1, 1, 100, 0));
        due.refuses(Due.ARGUMENT, "high 0", b, x -> x.addRecipe(50, 1, 0, 100, 0));
        due.refuses(Due.ARGUMENT, "allergens 16", b, x -> x.addRecipe(50, 1, 1, 100, 16));
    }

    /** Promise 4, piece: "50 to 2000". */
    private static void takesPieces() {
        due.edge("addRecipe(piece, ..)", Bakery::new, (b, piece) -> b.addRecipe(piece, 5, 9, 110, 2))
                .takes(50, 0).takes(2000, 0).refuses(Due.ARGUMENT, 0, -50).refusesOutside(Due.ARGUMENT, 50, 2000);
        due.edge("a dough of pieces", Bakery::new, (b, piece) -> {
            b.addRecipe(piece, 5, 9, 110, 2);
            b.setPart(0, 0, 1);
            b.receive(0, 200000);
            b.mix(0, 40);
            return b.doughAt(0, 4);
        }).takes(50, 2000).takes(2000, 80000);
    }

    /** Promise 4, low: "1 to 200". */
    private static void takesLowBounds() {
        due.edge("addRecipe(90, low, 200, ..)", Bakery::new, (b, low) -> b.addRecipe(90, low, 200, 110, 2))
                .takes(1, 0).takes(200, 0).refuses(Due.ARGUMENT, -1).refusesOutside(Due.ARGUMENT, 1, 200);
        due.edge("addRecipe(90, low, low, ..)", Bakery::new, (b, low) -> b.addRecipe(90, low, low, 110, 2))
                .takes(1, 0).takes(200, 0).refusesOutside(Due.ARGUMENT, 1, 200);
    }

    /** Promise 4, high: "low to 200". */
    private static void takesHighBounds() {
        due.edge("addRecipe(90, 5, high, ..)", Bakery::new, (b, high) -> b.addRecipe(90, 5, high, 110, 2))
                .takes(5, 0).takes(6, 0).takes(200, 0).refuses(Due.ARGUMENT, 1, 0)
                .refusesOutside(Due.ARGUMENT, 5, 200);
        due.edge("addRecipe(90, 200, high, ..)", Bakery::new, (b, high) -> b.addRecipe(90, 200, high, 110, 2))
                .takes(200, 0).refusesOutside(Due.ARGUMENT, 200, 200);
    }

    /** Promise 4, heat: "100 to 300". */
    private static void takesHeats() {
        due.edge("addRecipe(.., heat, 2)", Bakery::new, (b, heat) -> b.addRecipe(90, 5, 9, heat, 2))
                .takes(100, 0).takes(300, 0).refuses(Due.ARGUMENT, 0, 20).refusesOutside(Due.ARGUMENT, 100, 300);
    }

    /** Promise 4, allergens: "0 to 15". */
    private static void takesAllergens() {
        due.edge("addRecipe(.., allergens)", Bakery::new, (b, set) -> b.addRecipe(90, 5, 9, 110, set))
                .takes(0, 0).takes(15, 0).refuses(Due.ARGUMENT, 32).refusesOutside(Due.ARGUMENT, 0, 15);
    }

    /** Terms 2: "allergens (a set of 0 to 3, told by the sum of 2 to their power)". */
    private static void tellsAllergensByTheirPowers() {
        int[] prices = {3, 5, 2, 4};
        for (int allergen = 0; allergen <= 3; allergen++) {
            int set = 1 << allergen;
            due.is("cleaning of " + allergen + " ahead of all others", prices[allergen],
                    Made.withAllergens(set, 15 - set), b -> b.cleaning(3));
        }
    }

    /** Promise 4: "Adds a recipe, without parts". */
    private static void addsRecipesWithoutParts() {
        due.refuses(Due.STATE, "amount without parts", withParts(), b -> b.amount(0, 1, 0));
        for (int good = 0; good <= 7; good++) {
            int asked = good;
            due.is("parts of " + good, 0, withParts(), b -> b.setPart(0, asked, 1));
        }
    }

    /** Terms 2: a recipe that was undone leaves neither wait nor parts to the next one of its number. */
    private static void addsRecipesAnewBehindUndo() {
        Bakery b = withParts();
        b.addRecipe(60, 1, 1, 100, 0);
        b.setWait(1, 3);
        b.setPart(1, 2, 9);
        b.undo();
        b.undo();
        b.undo();
        b.addRecipe(70, 1, 1, 100, 0);
        due.refuses(Due.STATE, "amount without parts", b, x -> x.amount(1, 1, 2));
        due.is("the wait", 20, () -> b.setWait(1, 0));
    }

    /** Terms 2: a wait "(0 to 99 ticks; 20 at first)". */
    private static void waitsTwentyAtFirst() {
        Bakery b = Made.withAllergens(0, 0, 0, 0, 0, 0);
        for (int recipe = 0; recipe < 6; recipe++) {
            int asked = recipe;
            due.is("wait of " + recipe, 20, () -> b.setWait(asked, 0));
        }
    }

    /** Promise 5, recipe: "number of a recipe". */
    private static void setsTheWaitOfARecipe() {
        due.edge("setWait(recipe, 5) of one", () -> Made.withRecipes(1), (b, recipe) -> b.setWait(recipe, 5))
                .takes(0, 20).refusesOutside(Due.INDEX, 0, 0);
        due.edge("setWait(recipe, 5) of six", () -> Made.withRecipes(6), (b, recipe) -> b.setWait(recipe, 5))
                .takes(0, 20).takes(5, 20).refusesOutside(Due.INDEX, 0, 5);
    }

    /** Promise 5, wait: "0 to 99". */
    private static void setsWaits() {
        due.edge("setWait(0, wait)", () -> withParts(), (b, wait) -> b.setWait(0, wait)).takes(0, 20).takes(99, 20)
                .refusesOutside(Due.ARGUMENT, 0, 99);
    }

    /** Promise 5: "Returns the wait before", also if it is the same one. */
    private static void tellsTheWaitBefore() {
        Bakery b = Made.withRecipes(2);
        due.is("the first wait", 20, () -> b.setWait(1, 99));
        due.is("the same wait", 99, () -> b.setWait(1, 99));
        due.is("the least wait", 99, () -> b.setWait(1, 0));
        due.is("a wait behind it", 0, () -> b.setWait(1, 20));
        due.is("the other recipe", 20, () -> b.setWait(0, 1));
    }

    /** Promise 5, with Terms 13: no such recipe is ahead of a wait out of range. */
    private static void namesAWrongRecipeAheadOfItsWait() {
        due.refuses(Due.INDEX, "setWait(1, 100)", withParts(), b -> b.setWait(1, 100));
        due.refuses(Due.INDEX, "setWait(-1, -1)", withParts(), b -> b.setWait(-1, -1));
        due.refuses(Due.INDEX, "setWait(0, 100) without recipes", new Bakery(), b -> b.setWait(0, 100));
    }

    /** Promise 6, recipe: "number of a recipe". */
    private static void setsPartsOfARecipe() {
        due.edge("setPart(recipe, 0, 5) of one", () -> Made.withRecipes(1), (b, recipe) -> b.setPart(recipe, 0, 5))
                .takes(0, 1).refusesOutside(Due.INDEX, 0, 0);
        due.edge("setPart(recipe, 0, 5) of six", () -> Made.withRecipes(6), (b, recipe) -> b.setPart(recipe, 0, 5))
                .takes(0, 1).takes(5, 1).refusesOutside(Due.INDEX, 0, 5);
    }

    /** Promise 6, good: "0 to 7", crumbs too. */
    private static void setsPartsOfEachGood() {
        due.edge("setPart(0, good, 5)", () -> withParts(0, 1, 2, 3, 4, 5, 6, 7), (b, good) -> b.setPart(0, good, 5))
                .takes(0, 0).takes(1, 1).takes(6, 6).takes(7, 7).refusesOutside(Due.INDEX, 0, 7);
    }

    /** Promise 6, parts: "0 to 9999". */
    private static void setsParts() {
        due.edge("setPart(0, 3, parts)", () -> withParts(), (b, parts) -> b.setPart(0, 3, parts)).takes(0, 0)
                .takes(9999, 0).refusesOutside(Due.ARGUMENT, 0, 9999);
    }

    /** Promise 6: "Returns the parts before", also if they are the same. */
    private static void tellsThePartsBefore() {
        Bakery b = Made.withRecipes(6);
        due.is("the first parts", 0, () -> b.setPart(5, 7, 9999));
        due.is("the same parts", 9999, () -> b.setPart(5, 7, 9999));
        due.is("no parts", 9999, () -> b.setPart(5, 7, 0));
        due.is("none again", 0, () -> b.setPart(5, 7, 0));
        due.is("the good ahead of it", 0, () -> b.setPart(5, 6, 1));
        due.is("the recipe ahead of it", 0, () -> b.setPart(4, 7, 1));
    }

    /** Promise 6, with Terms 13: no such recipe or good is ahead of parts out of range. */
    private static void namesAWrongRecipeOrGoodAheadOfParts() {
        due.refuses(Due.INDEX, "setPart(1, 0, 10000)", withParts(), b -> b.setPart(1, 0, 10000));
        due.refuses(Due.INDEX, "setPart(0, 8, 10000)", withParts(), b -> b.setPart(0, 8, 10000));
        due.refuses(Due.INDEX, "setPart(0, -1, -1)", withParts(), b -> b.setPart(0, -1, -1));
        due.refuses(Due.INDEX, "setPart(-1, 8, -1)", withParts(), b -> b.setPart(-1, 8, -1));
        due.refuses(Due.INDEX, "setPart(0, 8, 1)", withParts(), b -> b.setPart(0, 8, 1));
    }

    /** Promise 8, recipe: "number of a recipe". */
    private static void scalesARecipe() {
        due.edge("amount(recipe, 9, 0) of one", () -> Made.withRecipes(1), (b, recipe) -> b.amount(recipe, 9, 0))
                .takes(0, 9).refusesOutside(Due.INDEX, 0, 0);
        due.edge("amount(recipe, 9, 0) of six", () -> Made.withRecipes(6), (b, recipe) -> b.amount(recipe, 9, 0))
                .takes(0, 9).takes(5, 9).refusesOutside(Due.INDEX, 0, 5);
    }

    /** Promise 8, grams: "1 to 100000". */
    private static void scalesGrams() {
        due.edge("amount(0, grams, 0)", () -> withParts(1), (b, grams) -> b.amount(0, grams, 0)).takes(1, 1)
                .takes(100000, 100000).refuses(Due.ARGUMENT, -1).refusesOutside(Due.ARGUMENT, 1, 100000);
    }

    /** Promise 8, good: "0 to 7". */
    private static void scalesEachGood() {
        due.edge("amount(0, 36, good)", () -> withParts(1, 2, 3, 4, 5, 6, 7, 8), (b, good) -> b.amount(0, 36, good))
                .takes(0, 1).takes(7, 8).refusesOutside(Due.INDEX, 0, 7);
    }

    /** Promise 8: "IllegalStateException if the recipe has no parts", none yet and none any more. */
    private static void refusesToScaleWithoutParts() {
        due.refuses(Due.STATE, "no parts yet", withParts(), b -> b.amount(0, 9, 0));
        Bakery b = withParts(0, 0, 0, 0, 0, 0, 0, 1);
        due.is("one part of the last good", 9, () -> b.amount(0, 9, 7));
        b.setPart(0, 7, 0);
        due.refuses(Due.STATE, "no parts any more", b, x -> x.amount(0, 9, 7));
        b.setPart(0, 0, 1);
        due.is("one part of the first good", 0, () -> b.amount(0, 9, 7));
    }

    /** Promise 8, with Terms 13: recipe and good are ahead of grams, grams ahead of a recipe without parts. */
    private static void namesScalingFaultsInTheirOrder() {
        due.refuses(Due.INDEX, "amount(1, 0, 0)", withParts(), b -> b.amount(1, 0, 0));
        due.refuses(Due.INDEX, "amount(0, 0, 8)", withParts(), b -> b.amount(0, 0, 8));
        due.refuses(Due.INDEX, "amount(0, 1, 8)", withParts(), b -> b.amount(0, 1, 8));
        due.refuses(Due.INDEX, "amount(0, 100001, -1)", withParts(1), b -> b.amount(0, 100001, -1));
        due.refuses(Due.ARGUMENT, "amount(0, 0, 0)", withParts(), b -> b.amount(0, 0, 0));
        due.refuses(Due.ARGUMENT, "amount(0, 100001, 7)", withParts(), b -> b.amount(0, 100001, 7));
    }

    /** Terms 2: "all amounts up to it are together the product .. divided by the sum .., rounded down". */
    private static void roundsSumsDown() {
        amounts(withParts(1, 1, 1), 1, 0, 0, 1, 0, 0, 0, 0, 0);
        amounts(withParts(1, 1, 1), 2, 0, 1, 1, 0, 0, 0, 0, 0);
        amounts(withParts(1, 1, 1), 3, 1, 1, 1, 0, 0, 0, 0, 0);
        amounts(withParts(1, 1, 1), 4, 1, 1, 2, 0, 0, 0, 0, 0);
        amounts(withParts(2, 1, 2, 1, 1, 1, 1, 1), 7, 1, 1, 1, 1, 0, 1, 1, 1);
    }

    /** Terms 2: goods without parts get nothing, at the begin, in the middle and at the end. */
    private static void givesNothingToGoodsWithoutParts() {
        amounts(withParts(0, 3, 0, 0, 2, 0, 0, 0), 99, 0, 59, 0, 0, 40, 0, 0, 0);
        amounts(withParts(0, 0, 0, 0, 0, 0, 0, 9999), 100000, 0, 0, 0, 0, 0, 0, 0, 100000);
        amounts(withParts(9999), 1, 1, 0, 0, 0, 0, 0, 0, 0);
    }

    /** Terms 2: "the product of these grams and the sum of all parts", beyond what an int holds. */
    private static void scalesProductsThatWrapAround() {
        amounts(withParts(9999, 9999, 9999, 9999, 9999, 9999, 9999, 9999), 100000,
                12500, 12500, 12500, 12500, 12500, 12500, 12500, 12500);
        amounts(withParts(9999, 1, 9999, 0, 0, 0, 0, 9998), 100000, 33333, 3, 33334, 0, 0, 0, 0, 33330);
        // 21474 times 100000 is the last product that an int holds, 21475 times 100000 the first that it does not.
        amounts(withParts(9999, 9999, 1476, 1), 100000, 46561, 46561, 6873, 5, 0, 0, 0, 0);
    }

    /** Promise 9: "Returns 0 to 6". */
    private static void countsRecipes() {
        for (int number = 0; number <= 6; number++) {
            int want = number;
            due.is("recipeCount of " + number, want, Made.withAllergens(new int[number]), b -> b.recipeCount());
        }
        Bakery b = Made.withAllergens(new int[6]);
        due.is("a seventh one", Due.thrown(Due.STATE), () -> b.addRecipe(50, 1, 1, 100, 0));
        due.is("recipeCount behind it", 6, () -> b.recipeCount());
        b.undo();
        due.is("recipeCount behind undo", 5, () -> b.recipeCount());
    }
}
