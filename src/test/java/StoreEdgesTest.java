import java.util.List;

/** The edges that the document names in its head, in "Terms", section 1, and in the promises 1 to 3. */
public final class StoreEdgesTest {
    private static final Due due = new Due();

    public static void main(String[] args) {
        due.runAll(StoreEdgesTest.class);
    }

    /** What it is: "An object is used for at most 512 calls after it has been made". */
    private static void answersTheLastOfItsCalls() {
        Bakery b = new Bakery();
        for (int i = 0; i < 509; i++) {
            b.receive(0, 1);
        }
        due.is("call 510", 510, () -> b.receive(0, 1));
        due.is("call 511", 7, () -> b.undo());
        due.is("call 512", 509, () -> b.store(0));
    }

    /** What it is: "An object is used for at most 512 calls", refused ones too. */
    private static void answersTheLastOfItsCallsBehindRefusedOnes() {
        Bakery b = new Bakery();
        b.receive(6, 9);
        for (int i = 0; i < 510; i++) {
            due.is("a refused call", Due.thrown(Due.INDEX), () -> b.receive(8, 1));
        }
        due.is("call 512", 18, () -> b.receive(6, 9));
    }

    /** Promise 1: "Creates a bakery at the tick 0". */
    private static void beginsAtTheTickZero() {
        due.is("now", 0, new Bakery(), b -> b.now());
        due.is("the first tick", 1, new Bakery(), b -> b.pass(1));
    }

    /** Promise 1: "with an empty store"; Terms 1: "The store has a number of grams of each, 0 at first". */
    private static void beginsWithAnEmptyStore() {
        for (int good = 0; good <= 7; good++) {
            int asked = good;
            due.is("store " + good, 0, new Bakery(), b -> b.store(asked));
        }
        due.is("book 3", 0, new Bakery(), b -> b.book(3));
    }

    /** Promise 1: "without recipes". */
    private static void beginsWithoutRecipes() {
        due.is("recipeCount", 0, new Bakery(), b -> b.recipeCount());
        List<Due.Question> questions = List.of(b -> b.setWait(0, 20), b -> b.setPart(0, 0, 1), b -> b.amount(0, 1, 0),
                b -> b.mix(0, 1), b -> b.breads(0, 0), b -> b.sell(0, 1), b -> b.crumble(0), b -> b.note(0, 1),
                b -> b.bestNumber(0, 1, 1), b -> b.loss(0, 1, 1, 1));
        for (Due.Question question : questions) {
            due.refuses(Due.INDEX, "question " + questions.indexOf(question), new Bakery(), question);
        }
        due.is("readParts(0)", Due.thrown(Due.INDEX), new Bakery(), b -> b.readParts(0));
        due.refuses(Due.ARGUMENT, "cleaning(1)", new Bakery(), b -> b.cleaning(1));
        due.refuses(Due.ARGUMENT, "rowAt(1, 0)", new Bakery(), b -> b.rowAt(1, 0));
    }

    /** Promise 1: without "doughs". */
    private static void beginsWithoutDoughs() {
        due.is("doughCount", 0, new Bakery(), b -> b.doughCount());
        List<Due.Question> questions = List.of(b -> b.shape(0), b -> b.doughAt(0, 0), b -> b.throwAway(0),
                b -> b.bake(0), b -> b.planned(0));
        for (Due.Question question : questions) {
            due.refuses(Due.INDEX, "question " + questions.indexOf(question), new Bakery(), question);
            due.refuses(Due.INDEX, "question " + questions.indexOf(question), Made.withRecipes(1), question);
        }
        due.is("inPlan", 0, new Bakery(), b -> b.inPlan());
        due.is("late", 0, new Bakery(), b -> b.late());
    }

    /** Promise 1: without "breads". */
    private static void beginsWithoutBreads() {
        for (int age = 0; age <= 3; age++) {
            int asked = age;
            due.is("breads(0, " + age + ")", 0, Made.withRecipes(1), b -> b.breads(0, asked));
        }
        due.refuses(Due.STATE, "sell(0, 1)", Made.withRecipes(1), b -> b.sell(0, 1));
        due.is("crumble(0)", 0, Made.withRecipes(1), b -> b.crumble(0));
        due.is("endDay", 0, new Bakery(), b -> b.endDay());
        due.is("book 6", 0, new Bakery(), b -> b.book(6));
    }

    /** Promise 1: without "notes". */
    private static void beginsWithoutNotes() {
        due.refuses(Due.ELEMENT, "bestNumber(0, 1, 1)", Made.withRecipes(1), b -> b.bestNumber(0, 1, 1));
        due.is("note(0, 9)", 1, Made.withRecipes(1), b -> b.note(0, 9));
        due.is("loss(0, 9, 9, 9)", 0, Made.withRecipes(1), b -> b.loss(0, 9, 9, 9));
    }

    /** Promise 1: without "shops". */
    private static void beginsWithoutShops() {
        due.is("addShop", 0, new Bakery(), b -> b.addShop(1, 1, 1, 1, 1));
        due.is("comesBack(8)", 8, new Bakery(), b -> b.comesBack(8));
        due.refuses(Due.INDEX, "shopOf(0, 0)", new Bakery(), b -> b.shopOf(0, 0));
    }

    /** Promise 1: "with an empty text". */
    private static void beginsWithAnEmptyText() {
        due.is("type(0)", 0, new Bakery(), b -> b.type(0));
        due.is("type of a byte", 1, new Bakery(), b -> b.type(' '));
        due.is("fault", 0, new Bakery(), b -> b.fault());
    }

    /** Promise 1: a new object shares nothing with one made ahead of it. */
    private static void beginsAnewBesideAnother() {
        Bakery full = Made.withEachState();
        full.addShop(1, 2, 3, 400, 5);
        full.setFlour(0, 1, 2, 100);
        full.note(0, 3);
        full.type('7');
        String fresh = Look.at(new Bakery(), 400);
        Bakery other = new Bakery();
        due.is("a new one beside a full one", fresh, () -> Look.at(other, 400));
        due.is("book 5 of the full one", 150, () -> full.book(5));
    }

    /** Promise 2, good: "0 to 7, but not 7". */
    private static void receivesEachGoodButCrumbs() {
        Edge edge = due.edge("receive(good, 5)", Bakery::new, (b, good) -> b.receive(good, 5));
        for (int good = 0; good <= 6; good++) {
            edge.takes(good, 5);
        }
        edge.refuses(Due.ARGUMENT, 7).refusesOutside(Due.INDEX, 0, 7);
    }

    /** Promise 2, grams: "1 to 200000". */
    private static void receivesGrams() {
        due.edge("receive(0, grams)", Bakery::new, (b, grams) -> b.receive(0, grams)).takes(1, 1).takes(2, 2)
                .takes(199999, 199999).takes(200000, 200000).refuses(Due.ARGUMENT, -1)
                .refusesOutside(Due.ARGUMENT, 1, 200000);
    }

    /** Promise 2: "Returns how many grams of it are in the store then". */
    private static void tellsWhatIsInTheStore() {
        Bakery b = new Bakery();
        due.is("the first grams", 7, () -> b.receive(3, 7));
        due.is("more of it", 12, () -> b.receive(3, 5));
        due.is("another good", 1, () -> b.receive(2, 1));
        due.is("book 0", 13, () -> b.book(0));
    }

    private static Bakery withGramsOfWater(int grams) {
        Bakery b = new Bakery();
        int left = grams;
        while (left > 0) {
            int received = Math.min(left, 200000);
            b.receive(4, received);
            left -= received;
        }
        return b;
    }

    /** Promise 2: "IllegalStateException if there would be more than 1000000 of it": the last grams allowed. */
    private static void fillsTheStoreToTheLastGram() {
        due.is("999999 and 1", 1000000, withGramsOfWater(999999), b -> b.receive(4, 1));
        due.is("800000 and 200000", 1000000, withGramsOfWater(800000), b -> b.receive(4, 200000));
        due.is("999998 and 1", 999999, withGramsOfWater(999998), b -> b.receive(4, 1));
    }

    /** Promise 2: "IllegalStateException if there would be more than 1000000 of it": the first grams refused. */
    private static void refusesTheFirstGramTooMuch() {
        due.refuses(Due.STATE, "1000000 and 1", withGramsOfWater(1000000), b -> b.receive(4, 1));
        due.refuses(Due.STATE, "999999 and 2", withGramsOfWater(999999), b -> b.receive(4, 2));
        due.refuses(Due.STATE, "800001 and 200000", withGramsOfWater(800001), b -> b.receive(4, 200000));
        due.refuses(Due.STATE, "1000000 and 200000", withGramsOfWater(1000000), b -> b.receive(4, 200000));
    }

    /** Promise 2: "more than 1000000 of it", not of all goods together. */
    private static void countsEachGoodAlone() {
        Bakery b = withGramsOfWater(1000000);
        for (int good : new int[] {0, 1, 2, 3, 5, 6}) {
            due.is("receive " + good + " beside a full good", 200000, () -> b.receive(good, 200000));
        }
        due.is("the full good", 1000000, () -> b.store(4));
    }

    /** Promise 2: "more than 1000000 of it" in the store: what left it makes room. */
    private static void countsWhatIsInTheStoreAlone() {
        Bakery b = withGramsOfWater(1000000);
        b.addRecipe(50, 1, 1, 100, 0);
        b.setPart(0, 4, 1);
        b.mix(0, 1);
        due.refuses(Due.STATE, "51 grams into the room of 50", b, x -> x.receive(4, 51));
        due.is("50 grams into the room of 50", 1000000, () -> b.receive(4, 50));
        b.undo();
        due.is("a gram into the room of 50", 999951, () -> b.receive(4, 1));
    }

    /** Promise 2, with Terms 13: no such good is ahead of grams out of range. */
    private static void namesAWrongGoodFirst() {
        due.refuses(Due.INDEX, "receive(8, 0)", new Bakery(), b -> b.receive(8, 0));
        due.refuses(Due.INDEX, "receive(-1, 200001)", new Bakery(), b -> b.receive(-1, 200001));
        due.refuses(Due.INDEX, "receive(8, 1) beside a full good", withGramsOfWater(1000000), b -> b.receive(8, 1));
    }

    /** Promise 2, with Terms 13: crumbs and grams out of range are ahead of a full store. */
    private static void namesWrongGramsAheadOfAFullStore() {
        Bakery b = withGramsOfWater(1000000);
        due.refuses(Due.ARGUMENT, "0 grams into a full store", b, x -> x.receive(4, 0));
        due.refuses(Due.ARGUMENT, "200001 grams into a full store", b, x -> x.receive(4, 200001));
        due.refuses(Due.ARGUMENT, "the greatest number into a full store", b,
                x -> x.receive(4, Integer.MAX_VALUE));
        due.refuses(Due.ARGUMENT, "no grams of crumbs", b, x -> x.receive(7, 0));
    }

    /** Promise 2: "IllegalArgumentException if good is 7", however many crumbs there are. */
    private static void refusesCrumbsBesideCrumbs() {
        Bakery b = Made.baked(3);
        b.endDay();
        b.crumble(0);
        due.refuses(Due.ARGUMENT, "receive(7, 1)", b, x -> x.receive(7, 1));
        due.is("store(7)", 150, () -> b.store(7));
    }

    /** Promise 3, good: "0 to 7"; Terms 1: "Goods are numbered: 0 to 3 flours, .. 7 crumbs". */
    private static void tellsOfEachGood() {
        Bakery b = Made.baked(2);
        b.endDay();
        b.crumble(0);
        int[] want = {199900, 21, 22, 23, 24, 25, 26, 100};
        for (int good = 1; good <= 6; good++) {
            b.receive(good, 20 + good);
        }
        for (int good = 0; good <= 7; good++) {
            int asked = good;
            due.is("store " + good, want[good], () -> b.store(asked));
        }
        due.edge("store(good)", Bakery::new, (x, good) -> x.store(good)).takes(0, 0).takes(7, 0)
                .refusesOutside(Due.INDEX, 0, 7);
    }
}
