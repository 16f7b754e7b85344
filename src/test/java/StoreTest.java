/** Promises 1 to 9: a new object, the store and the recipes. */
public final class StoreTest {
    private static final Due due = new Due();

    public static void main(String[] args) {
        newBakery();
        receives();
        refusesGoods();
        addsRecipes();
        refusesRecipes();
        setsWait();
        setsParts();
        scales();
        scalesBigNumbers();
        due.end();
    }

    private static void newBakery() {
        Bakery b = new Bakery();
        due.is("now", 0, () -> b.now());
        due.is("recipeCount", 0, () -> b.recipeCount());
        due.is("doughCount", 0, () -> b.doughCount());
        due.is("heat", 20, () -> b.heat());
        due.is("fault of the empty text", 0, () -> b.fault());
        due.is("type(0)", 0, () -> b.type(0));
        due.is("actCount", 0, () -> b.actCount());
        due.is("inPlan", 0, () -> b.inPlan());
        due.is("late", 0, () -> b.late());
        due.is("comesBack(7)", 7, () -> b.comesBack(7));
        due.is("cleaning(0)", 0, () -> b.cleaning(0));
        due.is("warmth", 2, () -> b.setWarmth(2));
        due.is("decks", 2, () -> b.setDecks(2));
        for (int good = 0; good < 8; good++) {
            int asked = good;
            due.is("store " + good, 0, () -> b.store(asked));
        }
        for (int what = 0; what < 7; what++) {
            int asked = what;
            due.is("book " + what, 0, () -> b.book(asked));
        }
    }

    private static void receives() {
        Bakery b = new Bakery();
        due.is("receive(6, 1)", 1, () -> b.receive(6, 1));
        due.is("receive(6, 200000)", 200001, () -> b.receive(6, 200000));
        due.is("store(6)", 200001, () -> b.store(6));
        due.is("store(5)", 0, () -> b.store(5));
        due.is("receive(0, 3)", 3, () -> b.receive(0, 3));
        for (int i = 1; i <= 5; i++) {
            int want = 200000 * i;
            due.is("receive(1, 200000)", want, () -> b.receive(1, 200000));
        }
        due.refuses(b, "receive(1, 1) with 1000000", Due.STATE, () -> b.receive(1, 1));
        due.is("receive(6, 199999)", 400000, () -> b.receive(6, 199999));
        due.is("book(0)", 1400003, () -> b.book(0));
    }

    private static void refusesGoods() {
        Bakery b = new Bakery();
        for (int good : new int[] {-1, 8, Integer.MIN_VALUE, Integer.MAX_VALUE}) {
            due.refuses(b, "receive " + good, Due.INDEX, () -> b.receive(good, 0));
            due.refuses(b, "store " + good, Due.INDEX, () -> b.store(good));
        }
        due.refuses(b, "receive crumbs", Due.ARGUMENT, () -> b.receive(7, 5));
        due.is("store(7)", 0, () -> b.store(7));
        for (int grams : new int[] {0, -1, 200001, Integer.MIN_VALUE, Integer.MAX_VALUE}) {
            due.refuses(b, "receive grams " + grams, Due.ARGUMENT, () -> b.receive(0, grams));
        }
        for (int i = 0; i < 5; i++) {
            b.receive(0, 200000);
        }
        due.refuses(b, "grams out of range in a full store", Due.ARGUMENT, () -> b.receive(0, 200001));
    }

    private static void addsRecipes() {
        Bakery b = new Bakery();
        due.is("least recipe", 0, () -> b.addRecipe(50, 1, 1, 100, 0));
        due.is("greatest recipe", 1, () -> b.addRecipe(2000, 200, 200, 300, 15));
        for (int i = 2; i < 6; i++) {
            due.is("recipeCount", i, () -> b.recipeCount());
            due.is("addRecipe", i, () -> b.addRecipe(60, 1, 200, 200, 3));
        }
        due.is("recipeCount", 6, () -> b.recipeCount());
        due.refuses(b, "seventh recipe", Due.STATE, () -> b.addRecipe(60, 1, 200, 200, 3));
        due.refuses(b, "seventh recipe out of range", Due.ARGUMENT, () -> b.addRecipe(49, 1, 200, 200, 3));
        due.is("wait at first", 20, () -> b.setWait(5, 20));
        due.is("parts at first", 0, () -> b.setPart(5, 7, 0));
    }

    private static void refusesRecipes() {
        Bakery b = new Bakery();
        int[][] wrong = {{49, 5, 9, 110, 2}, {2001, 5, 9, 110, 2}, {90, 0, 9, 110, 2}, {90, 201, 201, 110, 2},
            {90, 5, 4, 110, 2}, {90, 5, 201, 110, 2}, {90, 5, 9, 99, 2}, {90, 5, 9, 301, 2},
            {90, 5, 9, 110, -1}, {90, 5, 9, 110, 16}, {Integer.MIN_VALUE, 5, 9, 110, 2}};
        for (int[] w : wrong) {
            due.refuses(b, "addRecipe " + java.util.Arrays.toString(w), Due.ARGUMENT,
                    () -> b.addRecipe(w[0], w[1], w[2], w[3], w[4]));
        }
        due.is("recipeCount", 0, () -> b.recipeCount());
    }

    private static void setsWait() {
        Bakery b = Due.withRecipe(100, 1, 200, 100);
        due.is("setWait(0, 0)", 20, () -> b.setWait(0, 0));
        due.is("setWait(0, 99)", 0, () -> b.setWait(0, 99));
        due.is("setWait(0, 5)", 99, () -> b.setWait(0, 5));
        due.refuses(b, "setWait(1, 5)", Due.INDEX, () -> b.setWait(1, 5));
        due.refuses(b, "setWait(-1, 100)", Due.INDEX, () -> b.setWait(-1, 100));
        due.refuses(b, "setWait(0, 100)", Due.ARGUMENT, () -> b.setWait(0, 100));
        due.refuses(b, "setWait(0, -1)", Due.ARGUMENT, () -> b.setWait(0, -1));
        due.is("wait behind those", 5, () -> b.setWait(0, 5));
    }

    private static void setsParts() {
        Bakery b = new Bakery();
        b.addRecipe(90, 5, 9, 110, 0);
        b.addRecipe(90, 5, 9, 110, 0);
        due.is("setPart(0, 7, 9999)", 0, () -> b.setPart(0, 7, 9999));
        due.is("setPart(0, 7, 1)", 9999, () -> b.setPart(0, 7, 1));
        due.is("setPart(1, 0, 3)", 0, () -> b.setPart(1, 0, 3));
        due.is("setPart(0, 7, 0)", 1, () -> b.setPart(0, 7, 0));
        due.refuses(b, "setPart(2, 0, 1)", Due.INDEX, () -> b.setPart(2, 0, 1));
        due.refuses(b, "setPart(-1, 0, 1)", Due.INDEX, () -> b.setPart(-1, 0, 1));
        due.refuses(b, "setPart(0, 8, 1)", Due.INDEX, () -> b.setPart(0, 8, 1));
        due.refuses(b, "setPart(0, -1, 10000)", Due.INDEX, () -> b.setPart(0, -1, 10000));
        due.refuses(b, "setPart(0, 0, 10000)", Due.ARGUMENT, () -> b.setPart(0, 0, 10000));
        due.refuses(b, "setPart(0, 0, -1)", Due.ARGUMENT, () -> b.setPart(0, 0, -1));
    }

    private static void scales() {
        Bakery b = new Bakery();
        b.addRecipe(90, 5, 9, 110, 0);
        due.refuses(b, "amount without parts", Due.STATE, () -> b.amount(0, 90, 0));
        due.refuses(b, "amount grams 0", Due.ARGUMENT, () -> b.amount(0, 0, 0));
        due.refuses(b, "amount grams 100001", Due.ARGUMENT, () -> b.amount(0, 100001, 0));
        due.refuses(b, "amount good 8", Due.INDEX, () -> b.amount(0, 0, 8));
        due.refuses(b, "amount good -1", Due.INDEX, () -> b.amount(0, 1, -1));
        due.refuses(b, "amount recipe 1", Due.INDEX, () -> b.amount(1, 0, 0));
        for (int good = 0; good < 3; good++) {
            b.setPart(0, good, 1);
        }
        int[] want = {33, 33, 34, 0, 0, 0, 0, 0};
        for (int good = 0; good < 8; good++) {
            int asked = good;
            due.is("amount(0, 100, " + good + ")", want[good], () -> b.amount(0, 100, asked));
        }
        due.is("amount(0, 1, 0)", 0, () -> b.amount(0, 1, 0));
        due.is("amount(0, 1, 2)", 1, () -> b.amount(0, 1, 2));
        due.is("amount(0, 2, 1)", 1, () -> b.amount(0, 2, 1));
        due.is("amount(0, 2, 2)", 1, () -> b.amount(0, 2, 2));
    }

    private static void scalesBigNumbers() {
        Bakery b = new Bakery();
        b.addRecipe(90, 5, 9, 110, 0);
        for (int good = 0; good < 8; good++) {
            b.setPart(0, good, 9999);
        }
        due.is("amount(0, 100000, 7)", 12500, () -> b.amount(0, 100000, 7));
        b.setPart(0, 3, 9998);
        due.is("amount(0, 100000, 3)", 12499, () -> b.amount(0, 100000, 3));
        due.is("amount(0, 100000, 4)", 12500, () -> b.amount(0, 100000, 4));
        due.is("amount(0, 100000, 7)", 12501, () -> b.amount(0, 100000, 7));
    }
}
