/** Promises 29 to 31: the flours and their mix. */
public final class FlourTest {
    private static final Due due = new Due();

    public static void main(String[] args) {
        sets();
        refusesFlours();
        mixesAtFirst();
        mixesByCost();
        mixesByShares();
        mixesWithinCaps();
        mixesAtEdges();
        refusesMixes();
        due.end();
    }

    private static Bakery with(int[]... flours) {
        Bakery b = new Bakery();
        for (int i = 0; i < 4; i++) {
            b.setFlour(i, flours[i][0], flours[i][1], flours[i][2]);
        }
        return b;
    }

    private static String fraction(Due.Call top, Due.Call bottom) {
        return Due.answerOf(top) + "/" + Due.answerOf(bottom);
    }

    private static void is(Bakery b, int low, int high, String... want) {
        String bounds = "(" + low + ", " + high + ")";
        due.is("mixCost" + bounds, want[0],
                () -> fraction(() -> b.mixCost(low, high, false), () -> b.mixCost(low, high, true)));
        for (int i = 0; i < 4; i++) {
            int flour = i;
            due.is("mixShare" + bounds + " of " + i, want[1 + i], () -> fraction(
                    () -> b.mixShare(low, high, flour, false), () -> b.mixShare(low, high, flour, true)));
        }
    }

    private static void none(Bakery b, int low, int high) {
        due.refuses(b, "mixCost " + low + " " + high, Due.ELEMENT, () -> b.mixCost(low, high, false));
        due.refuses(b, "mixShare " + low + " " + high, Due.ELEMENT, () -> b.mixShare(low, high, 3, true));
    }

    private static void sets() {
        Bakery b = new Bakery();
        due.is("setFlour(0, 200, 999, 100)", 50, () -> b.setFlour(0, 200, 999, 100));
        due.is("setFlour(0, 0, 0, 0)", 999, () -> b.setFlour(0, 0, 0, 0));
        due.is("setFlour(3, 1, 1, 1)", 50, () -> b.setFlour(3, 1, 1, 1));
        due.is("setFlour(0, 0, 7, 0)", 0, () -> b.setFlour(0, 0, 7, 0));
        due.is("setFlour(0, 0, 7, 0)", 7, () -> b.setFlour(0, 0, 7, 0));
    }

    private static void refusesFlours() {
        Bakery b = new Bakery();
        due.refuses(b, "flour 4", Due.INDEX, () -> b.setFlour(4, 201, 0, 0));
        due.refuses(b, "flour -1", Due.INDEX, () -> b.setFlour(-1, 0, 0, 0));
        int[][] wrong = {{-1, 0, 0}, {201, 0, 0}, {0, -1, 0}, {0, 1000, 0}, {0, 0, -1}, {0, 0, 101}};
        for (int[] w : wrong) {
            due.refuses(b, "setFlour " + java.util.Arrays.toString(w), Due.ARGUMENT,
                    () -> b.setFlour(0, w[0], w[1], w[2]));
        }
    }

    private static void mixesAtFirst() {
        Bakery b = new Bakery();
        is(b, 0, 200, "50/1", "0/1", "0/1", "0/1", "1/1");
        is(b, 100, 100, "50/1", "0/1", "0/1", "0/1", "1/1");
        none(b, 0, 99);
        none(b, 101, 200);
    }

    private static void mixesByCost() {
        Bakery b = with(new int[] {150, 30, 60}, new int[] {90, 10, 70}, new int[] {100, 999, 100},
                new int[] {100, 999, 100});
        is(b, 110, 120, "50/3", "1/3", "2/3", "0/1", "0/1");
        is(b, 0, 200, "16/1", "3/10", "7/10", "0/1", "0/1");
    }

    private static void mixesByShares() {
        Bakery b = with(new int[] {150, 10, 100}, new int[] {50, 10, 100}, new int[] {150, 10, 100},
                new int[] {50, 10, 100});
        is(b, 100, 100, "10/1", "0/1", "0/1", "1/2", "1/2");
        is(b, 50, 150, "10/1", "0/1", "0/1", "0/1", "1/1");
        is(b, 51, 150, "10/1", "0/1", "0/1", "1/100", "99/100");
        b.setFlour(3, 60, 10, 100);
        is(b, 50, 55, "10/1", "0/1", "1/2", "0/1", "1/2");
        is(b, 0, 50, "10/1", "0/1", "1/1", "0/1", "0/1");
    }

    private static void mixesWithinCaps() {
        Bakery b = with(new int[] {100, 1, 10}, new int[] {100, 2, 20}, new int[] {100, 3, 30},
                new int[] {100, 4, 40});
        is(b, 0, 200, "3/1", "1/10", "1/5", "3/10", "2/5");
        b.setFlour(3, 100, 4, 39);
        none(b, 0, 200);
        b.setFlour(0, 100, 1, 11);
        is(b, 0, 200, "297/100", "11/100", "1/5", "3/10", "39/100");
        b.setFlour(0, 100, 999, 100);
        is(b, 0, 200, "451/4", "11/100", "1/5", "3/10", "39/100");
    }

    private static void mixesAtEdges() {
        Bakery b = with(new int[] {0, 999, 100}, new int[] {199, 998, 100}, new int[] {200, 997, 0},
                new int[] {100, 0, 0});
        is(b, 0, 0, "999/1", "1/1", "0/1", "0/1", "0/1");
        is(b, 199, 199, "998/1", "0/1", "1/1", "0/1", "0/1");
        is(b, 100, 100, "198701/199", "99/199", "100/199", "0/1", "0/1");
        is(b, 0, 100, "198701/199", "99/199", "100/199", "0/1", "0/1");
        none(b, 200, 200);
    }

    private static void refusesMixes() {
        Bakery b = new Bakery();
        due.refuses(b, "mixCost(-1, 5)", Due.ARGUMENT, () -> b.mixCost(-1, 5, false));
        due.refuses(b, "mixCost(201, 201)", Due.ARGUMENT, () -> b.mixCost(201, 201, false));
        due.refuses(b, "mixCost(5, 4)", Due.ARGUMENT, () -> b.mixCost(5, 4, false));
        due.refuses(b, "mixCost(5, 201)", Due.ARGUMENT, () -> b.mixCost(5, 201, true));
        due.refuses(b, "mixShare(5, 4, 4)", Due.INDEX, () -> b.mixShare(5, 4, 4, false));
        due.refuses(b, "mixShare(5, 4, -1)", Due.INDEX, () -> b.mixShare(5, 4, -1, false));
        due.refuses(b, "mixShare(5, 4, 3)", Due.ARGUMENT, () -> b.mixShare(5, 4, 3, false));
        due.refuses(b, "mixShare(-1, 4, 3)", Due.ARGUMENT, () -> b.mixShare(-1, 4, 3, false));
        due.refuses(b, "mixShare(0, 201, 3)", Due.ARGUMENT, () -> b.mixShare(0, 201, 3, false));
        due.refuses(b, "mixShare(0, 99, 4)", Due.INDEX, () -> b.mixShare(0, 99, 4, false));
    }
}
