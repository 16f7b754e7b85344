/** The edges that the document names in the promises 41 and 46 to 49. */
public final class BookEdgesTest {
    private static final Due due = new Due();

    public static void main(String[] args) {
        due.runAll(BookEdgesTest.class);
    }

    private static void books(String what, Bakery b, int... want) {
        for (int i = 0; i <= 6; i++) {
            int asked = i;
            due.is(what + ": book " + i, want[i], () -> b.book(asked));
        }
        due.is(what + ": errors", 0, () -> b.errors());
    }

    /** Promise 41: "IllegalArgumentException if what is not 0 to 6". */
    private static void tellsEachBook() {
        due.edge("book(what)", Made::withEachState, (b, what) -> b.book(what)).takes(0, 200000).takes(6, 200)
                .refusesOutside(Due.ARGUMENT, 0, 6);
        due.edge("book(what) at first", Bakery::new, (b, what) -> b.book(what)).takes(0, 0).takes(6, 0)
                .refusesOutside(Due.ARGUMENT, 0, 6);
    }

    /** Promise 41: each book of a new object is empty. */
    private static void beginsWithEmptyBooks() {
        books("at first", new Bakery(), 0, 0, 0, 0, 0, 0, 0);
    }

    /** Promise 41: "0 grams that came in": received ones alone, not those that were refused, undone or crumbled. */
    private static void tellsWhatCameIn() {
        Bakery b = Made.baked(2, 1);
        b.endDay();
        b.crumble(0);
        books("crumbled", b, 200000, 0, 0, 200000, 0, 0, 0);
        due.is("refused grams", Due.thrown(Due.ARGUMENT), () -> b.receive(1, 200001));
        b.receive(1, 9);
        books("received", b, 200009, 0, 0, 200009, 0, 0, 0);
        b.undo();
        books("undone", b, 200000, 0, 0, 200000, 0, 0, 0);
    }

    /** Promise 41: "3 in the store", as much as can be received of all goods. */
    private static void tellsAFullStore() {
        Bakery b = new Bakery();
        for (int good = 0; good <= 6; good++) {
            for (int i = 0; i < 5; i++) {
                b.receive(good, 200000);
            }
        }
        books("full", b, 7000000, 0, 0, 7000000, 0, 0, 0);
    }

    /** Promise 41: "2 thrown away": doughs of the table and breads that are too old. */
    private static void tellsWhatWasThrownAway() {
        Bakery b = Made.baked(2, 0, 0, 0);
        b.mix(0, 3);
        b.throwAway(1);
        books("a dough", b, 200000, 0, 150, 199750, 0, 0, 100);
        b.endDay();
        books("a dough and breads", b, 200000, 0, 250, 199750, 0, 0, 0);
    }

    /** Promise 41: "1 sold" and "6 in breads": the last bread leaves nothing. */
    private static void tellsWhatWasSold() {
        Bakery b = Made.baked(2);
        b.sell(0, 1);
        books("one of two", b, 200000, 50, 0, 199900, 0, 0, 50);
        b.sell(0, 1);
        books("both", b, 200000, 100, 0, 199900, 0, 0, 0);
    }

    /** Promise 41: "4 in doughs that are RISING or WAITING, 5 in doughs that are BAKING". */
    private static void tellsWhatIsInDoughs() {
        books("each state", Made.withEachState(), 200000, 0, 250, 200000 - 750, 150, 150, 200);
        books("20 doughs", Made.withDoughs(20), 200000, 0, 0, 199000, 1000, 0, 0);
    }

    /** Promise 46: "0.0 without breads": none yet, and none any more. */
    private static void tellsNoMeanAgeWithoutBreads() {
        due.is("without recipes", 0.0, new Bakery(), b -> b.meanAge());
        due.is("without breads", 0.0, Made.withRecipes(6), b -> b.meanAge());
        Bakery sold = Made.baked(2, 0);
        sold.sell(0, 2);
        due.is("all sold", 0.0, () -> sold.meanAge());
        Bakery old = Made.baked(2, 0, 0, 0);
        old.endDay();
        due.is("all thrown away", 0.0, () -> old.meanAge());
    }

    /** Promise 46: "the sum of their ages .. divided by their number": the least, the greatest and one between. */
    private static void tellsTheMeanAge() {
        due.is("the age 0", 0.0, Made.baked(7), b -> b.meanAge());
        due.is("one bread of the age 1", 1.0, Made.baked(1, 0), b -> b.meanAge());
        due.is("one bread of the age 3", 3.0, Made.baked(1, 0, 0, 0), b -> b.meanAge());
        due.is("the age 3", 3.0, Made.baked(7, 0, 0, 0), b -> b.meanAge());
        due.is("the ages 3 and 0", 1.5, Made.baked(7, 0, 0, 7), b -> b.meanAge());
        due.is("a third", 1.0 / 3.0, Made.baked(1, 2), b -> b.meanAge());
        due.is("the ages 3, 2, 1, 0", 10.0 / 10.0, Made.baked(1, 2, 3, 4), b -> b.meanAge());
    }

    /** Promise 46: the breads of all recipes, the first and the last one. */
    private static void tellsTheMeanAgeOfAllRecipes() {
        Bakery b = Made.withRecipes(6);
        b.setHeat(100);
        b.pass(10);
        b.mix(5, 2);
        b.pass(10);
        b.bake(0);
        b.pass(10);
        b.endDay();
        due.is("of the last recipe", 1.0, () -> b.meanAge());
        b.mix(0, 1);
        b.pass(10);
        b.bake(1);
        b.pass(10);
        due.is("of the first and the last one", 2.0 / 3.0, () -> b.meanAge());
    }

    /** Promise 47: "0.0f if nothing came in". */
    private static void tellsNoShareIfNothingCameIn() {
        due.is("at first", 0.0f, new Bakery(), b -> b.thrownShare());
        Bakery b = new Bakery();
        b.receive(0, 9);
        b.undo();
        due.is("what came in was undone", 0.0f, () -> b.thrownShare());
    }

    /** Promise 47: "the share of what came in that was thrown away": none, all, and a third of it. */
    private static void tellsTheShare() {
        due.is("none", 0.0f, Made.withDoughs(1), b -> b.thrownShare());
        Bakery b = Made.withAllergens(0);
        b.setPart(0, 0, 1);
        b.receive(0, 50);
        b.mix(0, 1);
        b.throwAway(0);
        due.is("all", 1.0f, () -> b.thrownShare());
        b.receive(0, 100);
        due.is("a third", 50.0f / 150.0f, () -> b.thrownShare());
    }

    /** What promise 48 tells, told by the other questions. */
    private static long checksum(Bakery b) {
        long c = 31 * 17L + b.now();
        for (int good = 0; good <= 7; good++) {
            c = 31 * c + b.store(good);
        }
        int doughs = b.doughCount();
        for (int dough = 0; dough < doughs; dough++) {
            c = 31 * c + b.doughAt(dough, 3);
            c = 31 * c + b.doughAt(dough, 2);
        }
        int recipes = b.recipeCount();
        for (int recipe = 0; recipe < recipes; recipe++) {
            for (int age = 0; age <= 3; age++) {
                c = 31 * c + b.breads(recipe, age);
            }
        }
        return c;
    }

    private static void sums(String what, Bakery b) {
        long want = checksum(b);
        due.is(what, want, () -> b.checksum());
    }

    /** Promise 48: "c is 17 at first; then 31 * c is added to each of the following": of a new object. */
    private static void sumsANewObject() {
        due.is("at first", 17L * 31 * 31 * 31 * 31 * 31 * 31 * 31 * 31 * 31, new Bakery(), b -> b.checksum());
        Bakery b = new Bakery();
        b.pass(7);
        long tick = 7L * 31 * 31 * 31 * 31 * 31 * 31 * 31 * 31;
        due.is("at the tick 7", 17L * 31 * 31 * 31 * 31 * 31 * 31 * 31 * 31 * 31 + tick, () -> b.checksum());
    }

    /** Promise 48: "in long arithmetic with overflow". */
    private static void sumsWithOverflow() {
        sums("each state", Made.withEachState());
        sums("20 doughs", Made.withDoughs(20));
        sums("six recipes", Made.withRecipes(6));
        sums("four ages", Made.baked(4, 3, 2, 1));
        Bakery b = Made.withRecipes(6);
        long c = (31 * 17L + 0) * 31 + 200000;
        for (int i = 0; i < 7 + 24; i++) {
            c *= 31;
        }
        long want = c;
        due.is("six recipes, written out", want, () -> b.checksum());
    }

    /** Promise 49: "always 0": without anything, and in each state. */
    private static void findsNoErrors() {
        due.is("at first", 0, new Bakery(), b -> b.errors());
        due.is("each state", 0, Made.withEachState(), b -> b.errors());
        due.is("four ages", 0, Made.baked(1, 2, 3, 4), b -> b.errors());
    }

    private static Bakery late(int doughs) {
        Bakery b = Due.withRecipe(50, 1, 20, 100);
        b.setDecks(1);
        for (int dough = 0; dough < doughs; dough++) {
            b.mix(0, 1);
        }
        return b;
    }

    /** Promise 49: "asked with at most 6 doughs in the plan alone": 0 to 7 and 20 of them, all but one late. */
    private static void findsNoErrorsInThePlan() {
        for (int doughs : new int[] {0, 1, 2, 5, 6, 7, 20}) {
            due.is("late of " + doughs, Math.max(0, doughs - 1), late(doughs), b -> b.late());
            due.is("errors with " + doughs + " doughs", 0, late(doughs), b -> b.errors());
        }
    }

    /** Promise 49: "with at most 5 shops alone": 0 to 7 of them, with and without a way. */
    private static void findsNoErrorsInTheCart() {
        for (int number = 0; number <= 7; number++) {
            for (int closing : new int[] {600, 100, 50, 20, 0}) {
                int[][] shops = new int[number][];
                for (int i = 0; i < number; i++) {
                    shops[i] = new int[] {3 * i % 7, 5 * i % 11, Math.min(closing, 9 * i), closing, i};
                }
                due.is("errors with " + number + " shops till " + closing, 0, Made.withShops(shops), b -> b.errors());
            }
        }
    }

    /** Promise 49: errors() changes nothing, neither the plan nor the best way. */
    private static void looksASecondWayWithoutAChange() {
        Bakery b = late(3);
        b.addShop(5, 0, 6, 600, 0);
        b.addShop(0, 0, 0, 600, 1);
        String before = Look.at(b, 350);
        b.errors();
        due.is("the bakery behind errors()", before, () -> Look.at(b, 350));
    }
}
