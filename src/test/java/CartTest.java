/** Promises 35 to 38: shops and the cart's way. */
public final class CartTest {
    private static final Due due = new Due();

    public static void main(String[] args) {
        addsShops();
        refusesShops();
        meetsHours();
        prefersLowerNumbers();
        findsBest();
        findsNone();
        tellsWays();
        refusesWays();
        withoutShops();
        goesThroughSeven();
        due.end();
    }

    private static Bakery with(int[]... shops) {
        Bakery b = new Bakery();
        for (int[] s : shops) {
            b.addShop(s[0], s[1], s[2], s[3], s[4]);
        }
        return b;
    }

    private static void addsShops() {
        Bakery b = new Bakery();
        due.is("least shop", 0, () -> b.addShop(0, 0, 0, 0, 0));
        due.is("greatest shop", 1, () -> b.addShop(20, 20, 600, 600, 30));
        for (int i = 2; i < 7; i++) {
            int number = i;
            due.is("addShop", number, () -> b.addShop(1, 2, 0, 600, 0));
        }
        due.refuses(b, "eighth shop", Due.STATE, () -> b.addShop(1, 2, 0, 600, 0));
        due.refuses(b, "eighth shop out of range", Due.ARGUMENT, () -> b.addShop(21, 2, 0, 600, 0));
    }

    private static void refusesShops() {
        Bakery b = new Bakery();
        int[][] wrong = {{-1, 2, 3, 9, 5}, {21, 2, 3, 9, 5}, {1, -1, 3, 9, 5}, {1, 21, 3, 9, 5}, {1, 2, -1, 9, 5},
            {1, 2, 601, 601, 5}, {1, 2, 3, 2, 5}, {1, 2, 3, 601, 5}, {1, 2, 3, 9, -1}, {1, 2, 3, 9, 31}};
        for (int[] w : wrong) {
            due.refuses(b, "addShop " + java.util.Arrays.toString(w), Due.ARGUMENT,
                    () -> b.addShop(w[0], w[1], w[2], w[3], w[4]));
        }
    }

    private static void meetsHours() {
        Bakery b = with(new int[] {3, 4, 20, 25, 6});
        due.is("waits for the opening", 33, () -> b.comesBack(0));
        due.is("comes just at the opening", 33, () -> b.comesBack(13));
        due.is("comes behind the opening", 34, () -> b.comesBack(14));
        due.is("comes just at the closing", 38, () -> b.comesBack(18));
        due.refuses(b, "comes behind the closing", Due.ELEMENT, () -> b.comesBack(19));
        due.refuses(b, "shopOf behind the closing", Due.ELEMENT, () -> b.shopOf(19, 0));
        due.is("wayBack behind the closing", OvenRound.NONE, () -> b.wayBack(19, 0));
        due.is("wayBack at the closing", 38, () -> b.wayBack(18, 0));
    }

    private static void prefersLowerNumbers() {
        Bakery all = with(new int[] {5, 0, 0, 600, 1}, new int[] {3, 0, 0, 600, 1}, new int[] {4, 0, 0, 600, 1});
        due.is("comesBack(0)", 13, () -> all.comesBack(0));
        int[] way = {0, 1, 2};
        due.is("the way 0, 1, 2 is longer", 15, () -> all.wayBack(0, 12));
        way = new int[] {0, 2, 1};
        for (int i = 0; i < 3; i++) {
            int index = i;
            due.is("shopOf(0, " + i + ")", way[i], () -> all.shopOf(0, index));
        }
    }

    private static void findsBest() {
        Bakery b = with(new int[] {10, 0, 0, 600, 0}, new int[] {0, 10, 0, 12, 0}, new int[] {0, 5, 40, 45, 3});
        due.is("comesBack(0)", 53, () -> b.comesBack(0));
        int[] want = {1, 0, 2};
        for (int i = 0; i < 3; i++) {
            int index = i;
            due.is("shopOf(0, " + i + ")", want[i], () -> b.shopOf(0, index));
        }
        due.is("wayBack(0, 102)", 53, () -> b.wayBack(0, 102));
        due.is("wayBack(0, 120)", 68, () -> b.wayBack(0, 120));
        due.is("wayBack(0, 12)", OvenRound.NONE, () -> b.wayBack(0, 12));
        due.is("comesBack(2)", 68, () -> b.comesBack(2));
        due.refuses(b, "comesBack(3)", Due.ELEMENT, () -> b.comesBack(3));
    }

    private static void findsNone() {
        Bakery b = with(new int[] {20, 20, 0, 40, 0}, new int[] {0, 20, 0, 40, 0}, new int[] {20, 0, 0, 40, 0});
        due.refuses(b, "comesBack(0)", Due.ELEMENT, () -> b.comesBack(0));
        due.refuses(b, "shopOf(0, 2)", Due.ELEMENT, () -> b.shopOf(0, 2));
        due.refuses(b, "shopOf(0, 3)", Due.INDEX, () -> b.shopOf(0, 3));
        due.refuses(b, "shopOf(601, 2)", Due.ARGUMENT, () -> b.shopOf(601, 2));
        due.is("errors", 0, () -> b.errors());
    }

    private static void tellsWays() {
        Bakery b = with(new int[] {4, 0, 0, 600, 2}, new int[] {1, 0, 10, 600, 0});
        due.is("wayBack(0, 10)", 19, () -> b.wayBack(0, 10));
        due.is("wayBack(0, 1)", 11, () -> b.wayBack(0, 1));
        due.is("wayBack(600, 1)", OvenRound.NONE, () -> b.wayBack(600, 1));
        for (int way : new int[] {0, 11, 12, 2, 20, 101, 110, 100, 1001, -1, -10, 21,
            Integer.MIN_VALUE, Integer.MAX_VALUE}) {
            due.refuses(b, "wayBack(0, " + way + ")", Due.ARGUMENT, () -> b.wayBack(0, way));
        }
        Bakery one = with(new int[] {4, 0, 0, 600, 2});
        due.is("wayBack(0, 0)", 10, () -> one.wayBack(0, 0));
        due.refuses(one, "wayBack(0, 1)", Due.ARGUMENT, () -> one.wayBack(0, 1));
        due.refuses(one, "wayBack(0, 10)", Due.ARGUMENT, () -> one.wayBack(0, 10));
    }

    private static void refusesWays() {
        Bakery b = with(new int[] {4, 0, 0, 600, 2}, new int[] {1, 0, 10, 600, 0});
        for (int begin : new int[] {-1, 601, Integer.MIN_VALUE, Integer.MAX_VALUE}) {
            due.refuses(b, "comesBack " + begin, Due.ARGUMENT, () -> b.comesBack(begin));
            due.refuses(b, "shopOf " + begin, Due.ARGUMENT, () -> b.shopOf(begin, 0));
            due.refuses(b, "shopOf index " + begin, Due.INDEX, () -> b.shopOf(begin, 2));
            due.refuses(b, "wayBack " + begin, Due.ARGUMENT, () -> b.wayBack(begin, 1));
        }
        due.refuses(b, "shopOf(0, -1)", Due.INDEX, () -> b.shopOf(0, -1));
        due.refuses(b, "shopOf(0, 2)", Due.INDEX, () -> b.shopOf(0, 2));
    }

    private static void withoutShops() {
        Bakery b = new Bakery();
        due.is("comesBack(0)", 0, () -> b.comesBack(0));
        due.is("comesBack(600)", 600, () -> b.comesBack(600));
        due.is("wayBack(600, 0)", 600, () -> b.wayBack(600, 0));
        due.refuses(b, "wayBack(0, 1)", Due.ARGUMENT, () -> b.wayBack(0, 1));
        due.refuses(b, "wayBack(0, -1)", Due.ARGUMENT, () -> b.wayBack(0, -1));
        due.refuses(b, "shopOf(0, 0)", Due.INDEX, () -> b.shopOf(0, 0));
    }

    private static void goesThroughSeven() {
        Bakery b = new Bakery();
        int[] order = {3, 6, 0, 5, 1, 4, 2};
        int[] rank = new int[7];
        for (int i = 0; i < 7; i++) {
            rank[order[i]] = i;
        }
        for (int shop = 0; shop < 7; shop++) {
            b.addShop(2 * rank[shop] + 2, 0, 0, 2 * rank[shop] + 2, 0);
        }
        due.is("comesBack(0)", 28, () -> b.comesBack(0));
        for (int i = 0; i < 7; i++) {
            int index = i;
            due.is("shopOf(0, " + i + ")", order[i], () -> b.shopOf(0, index));
        }
        due.is("wayBack(0, 3605142)", 28, () -> b.wayBack(0, 3605142));
        due.is("wayBack(0, 3605124)", OvenRound.NONE, () -> b.wayBack(0, 3605124));
        due.is("wayBack(0, 123456)", OvenRound.NONE, () -> b.wayBack(0, 123456));
    }
}
