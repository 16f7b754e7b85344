/** Promises 25 to 28: breads by age. */
public final class BreadTest {
    private static final Due due = new Due();

    public static void main(String[] args) {
        growsOlder();
        sells();
        refusesToSell();
        crumbles();
        crumblesAboveTheMost();
        refusesBreads();
        due.end();
    }

    /** Bakes as many pieces of the recipe 0 (50 grams each) as told, a day apart, the first ones oldest. */
    private static Bakery baked(int... pieces) {
        Bakery b = Due.withRecipe(50, 1, 200, 100);
        b.addRecipe(70, 1, 200, 100, 0);
        b.setPart(1, 0, 1);
        b.setHeat(100);
        b.pass(20);
        for (int i = 0; i < pieces.length; i++) {
            if (i > 0) {
                b.endDay();
            }
            if (pieces[i] > 0) {
                int dough = b.mix(0, pieces[i]);
                b.pass(10);
                b.bake(dough);
                b.pass(10);
            }
        }
        return b;
    }

    private static void ages(Bakery b, String what, int... want) {
        for (int age = 0; age < 4; age++) {
            int asked = age;
            due.is(what + ": breads(0, " + age + ")", want[age], () -> b.breads(0, asked));
        }
    }

    private static void growsOlder() {
        Bakery b = baked(1, 2, 3, 4);
        ages(b, "four days", 4, 3, 2, 1);
        due.is("endDay", 1, () -> b.endDay());
        ages(b, "five days", 0, 4, 3, 2);
        due.is("book(2)", 50, () -> b.book(2));
        due.is("book(6)", 450, () -> b.book(6));
        due.is("endDay", 2, () -> b.endDay());
        due.is("endDay", 3, () -> b.endDay());
        due.is("endDay", 4, () -> b.endDay());
        due.is("endDay", 0, () -> b.endDay());
        due.is("book(2)", 500, () -> b.book(2));
        int dough = b.mix(1, 7);
        b.pass(10);
        b.bake(dough);
        b.pass(10);
        due.is("breads(1, 0)", 7, () -> b.breads(1, 0));
        for (int day = 0; day < 3; day++) {
            due.is("endDay", 0, () -> b.endDay());
        }
        due.is("breads(1, 3)", 7, () -> b.breads(1, 3));
        due.is("endDay", 7, () -> b.endDay());
        due.is("book(2)", 990, () -> b.book(2));
    }

    private static void sells() {
        Bakery b = baked(1, 2, 3, 4);
        due.is("sell(0, 2)", 3, () -> b.sell(0, 2));
        ages(b, "sold 2", 4, 3, 1, 0);
        due.is("sell(0, 1)", 2, () -> b.sell(0, 1));
        due.is("sell(0, 5)", 1, () -> b.sell(0, 5));
        ages(b, "sold 8", 2, 0, 0, 0);
        due.is("sell(0, 2)", 0, () -> b.sell(0, 2));
        ages(b, "sold all", 0, 0, 0, 0);
        due.is("book(1)", 500, () -> b.book(1));
        Bakery many = baked(40, 40, 30);
        due.is("sell(0, 99)", 2, () -> many.sell(0, 99));
        ages(many, "sold 99", 11, 0, 0, 0);
    }

    private static void refusesToSell() {
        Bakery b = baked(2, 3);
        due.refuses(b, "sell 6 of 5", Due.STATE, () -> b.sell(0, 6));
        due.refuses(b, "sell of another recipe", Due.STATE, () -> b.sell(1, 1));
        due.refuses(b, "sell(2, 0)", Due.INDEX, () -> b.sell(2, 0));
        due.refuses(b, "sell(-1, 1)", Due.INDEX, () -> b.sell(-1, 1));
        for (int pieces : new int[] {0, -1, 100, Integer.MIN_VALUE, Integer.MAX_VALUE}) {
            due.refuses(b, "sell(0, " + pieces + ")", Due.ARGUMENT, () -> b.sell(0, pieces));
        }
        due.is("sell 5 of 5", 1, () -> b.sell(0, 5));
    }

    private static void crumbles() {
        Bakery b = baked(1, 2, 3, 4);
        due.is("crumble(0)", 300, () -> b.crumble(0));
        ages(b, "crumbled", 4, 0, 0, 0);
        due.is("store(7)", 300, () -> b.store(7));
        due.is("crumble(0)", 0, () -> b.crumble(0));
        due.is("crumble(1)", 0, () -> b.crumble(1));
        b.setPart(1, 0, 0);
        b.setPart(1, 7, 1);
        due.is("crumbs in a dough", 1, () -> b.mix(1, 4) - 3);
        due.is("store(7)", 20, () -> b.store(7));
        due.refuses(b, "crumble(2)", Due.INDEX, () -> b.crumble(2));
        due.refuses(b, "crumble(-1)", Due.INDEX, () -> b.crumble(-1));
    }

    private static void crumblesAboveTheMost() {
        Bakery b = new Bakery();
        b.addRecipe(2000, 1, 200, 100, 0);
        b.setPart(0, 0, 1);
        b.setHeat(100);
        b.setDecks(4);
        b.pass(20);
        for (int round = 0; round < 5; round++) {
            b.receive(0, 200000);
            b.receive(0, 120000);
            for (int i = 0; i < 4; i++) {
                b.mix(0, 40);
            }
            b.pass(10);
            for (int i = 0; i < 4; i++) {
                b.bake(4 * round + i);
            }
            b.pass(10);
        }
        b.endDay();
        due.is("crumble(0)", 1600000, () -> b.crumble(0));
        due.is("store(7)", 1600000, () -> b.store(7));
        due.is("errors", 0, () -> b.errors());
    }

    private static void refusesBreads() {
        Bakery b = baked(1);
        due.refuses(b, "breads(2, 4)", Due.INDEX, () -> b.breads(2, 4));
        due.refuses(b, "breads(-1, 0)", Due.INDEX, () -> b.breads(-1, 0));
        due.refuses(b, "breads(0, 4)", Due.ARGUMENT, () -> b.breads(0, 4));
        due.refuses(b, "breads(0, -1)", Due.ARGUMENT, () -> b.breads(0, -1));
    }
}
