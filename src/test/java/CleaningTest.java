/** Promises 39 and 40: the row with the least cleaning. */
public final class CleaningTest {
    private static final Due due = new Due();

    public static void main(String[] args) {
        pricesAllergens();
        prefersLowerNumbers();
        findsRows();
        refuses();
        due.end();
    }

    private static Bakery with(int... allergens) {
        Bakery b = new Bakery();
        for (int set : allergens) {
            b.addRecipe(50, 1, 1, 100, set);
        }
        return b;
    }

    private static void row(Bakery b, int set, int price, int... recipes) {
        due.is("cleaning " + set, price, () -> b.cleaning(set));
        for (int i = 0; i < recipes.length; i++) {
            int index = i;
            due.is("rowAt(" + set + ", " + i + ")", recipes[i], () -> b.rowAt(set, index));
        }
        due.refuses(b, "rowAt(" + set + ", " + recipes.length + ")", Due.INDEX,
                () -> b.rowAt(set, recipes.length));
        due.refuses(b, "rowAt(" + set + ", -1)", Due.INDEX, () -> b.rowAt(set, -1));
    }

    private static void pricesAllergens() {
        int[] prices = {3, 5, 2, 4};
        for (int one = 0; one < 4; one++) {
            for (int other = 0; other < 4; other++) {
                Bakery b = with(1 << one, 1 << other);
                int price = one == other ? 0 : Math.min(prices[one], prices[other]);
                boolean isTurned = one != other && prices[other] < prices[one];
                row(b, 3, price, isTurned ? 1 : 0, isTurned ? 0 : 1);
            }
        }
        row(with(15, 15), 3, 0, 0, 1);
        row(with(15, 0), 3, 0, 1, 0);
    }

    private static void prefersLowerNumbers() {
        row(with(0, 0, 0, 0, 0, 0), 63, 0, 0, 1, 2, 3, 4, 5);
        row(with(0, 0, 0, 0, 0, 0), 42, 0, 1, 3, 5);
        row(with(1, 1, 1), 6, 0, 1, 2);
    }

    private static void findsRows() {
        Bakery b = with(5, 8, 3, 0, 15, 1);
        row(b, 0, 0);
        row(b, 8, 0, 3);
        row(b, 32, 0, 5);
        row(b, 3, 4, 1, 0);
        row(b, 1 | 8 | 16 | 32, 0, 3, 5, 0, 4);
        row(b, 1 | 4 | 8 | 16 | 32, 2, 3, 0, 5, 2, 4);
        row(b, 63, 6, 1, 3, 0, 5, 2, 4);
    }

    private static void refuses() {
        Bakery b = with(5, 8);
        for (int set : new int[] {-1, 4, 5, 8, 64, Integer.MIN_VALUE, Integer.MAX_VALUE}) {
            due.refuses(b, "cleaning " + set, Due.ARGUMENT, () -> b.cleaning(set));
            due.refuses(b, "rowAt " + set, Due.ARGUMENT, () -> b.rowAt(set, -1));
        }
        Bakery none = new Bakery();
        due.is("cleaning(0)", 0, () -> none.cleaning(0));
        due.refuses(none, "cleaning(1)", Due.ARGUMENT, () -> none.cleaning(1));
        due.refuses(none, "rowAt(0, 0)", Due.INDEX, () -> none.rowAt(0, 0));
    }
}
