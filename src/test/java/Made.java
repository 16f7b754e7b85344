/** Bakeries to begin a test with. */
final class Made {
    private Made() {
    }

    /** So many recipes of 50 grams a piece, 1 to 200 points, heat 100, of one part of the flour 0 alone. */
    static Bakery withRecipes(int number) {
        Bakery b = new Bakery();
        for (int recipe = 0; recipe < number; recipe++) {
            b.addRecipe(50, 1, 200, 100, 0);
            b.setPart(recipe, 0, 1);
        }
        b.receive(0, 200000);
        return b;
    }

    /** So many doughs of one piece, 50 grams each, at the tick 0. */
    static Bakery withDoughs(int number) {
        Bakery b = withRecipes(1);
        for (int dough = 0; dough < number; dough++) {
            b.mix(0, 1);
        }
        return b;
    }

    /** One dough at the tick told, with as many points as told, which stay; its recipe has the bounds told. */
    static Bakery withPoints(int points, int low, int high, int tick) {
        Bakery b = Due.withRecipe(50, low, high, 100);
        passTo(b, tick - points);
        b.mix(0, 1);
        b.setWarmth(1);
        passTo(b, tick);
        b.setWarmth(0);
        return b;
    }

    /** An oven of 100 at the tick 20, and doughs of 1, 2, 3 .. pieces with 2 points that stay. */
    static Bakery hot(int doughs) {
        Bakery b = withRecipes(1);
        b.setHeat(100);
        b.pass(19);
        for (int dough = 0; dough < doughs; dough++) {
            b.mix(0, dough + 1);
        }
        b.pass(1);
        b.setWarmth(0);
        return b;
    }

    /** The doughs 0 to 4 are RISING, WAITING, BAKING, BAKED and THROWN, at the tick 30; all points stay. */
    static Bakery withEachState() {
        Bakery b = hot(5);
        b.bake(3);
        b.throwAway(4);
        b.pass(10);
        b.shape(1);
        b.bake(2);
        return b;
    }

    /** Two recipes; of the first one as many breads as told (50 grams each), the first number of the greatest age. */
    static Bakery baked(int... pieces) {
        Bakery b = withRecipes(2);
        b.setHeat(100);
        b.pass(10);
        for (int i = 0; i < pieces.length; i++) {
            if (i > 0) {
                b.endDay();
            }
            if (pieces[i] > 0) {
                int dough = b.mix(0, pieces[i]);
                b.pass(10);
                b.bake(dough);
                b.pass(10);
            }
        }
        return b;
    }

    static Bakery withShops(int[]... shops) {
        Bakery b = new Bakery();
        for (int[] s : shops) {
            b.addShop(s[0], s[1], s[2], s[3], s[4]);
        }
        return b;
    }

    /** The four flours, each by its strength, its cost and its cap. */
    static Bakery withFlours(int[]... flours) {
        Bakery b = new Bakery();
        for (int i = 0; i < flours.length; i++) {
            b.setFlour(i, flours[i][0], flours[i][1], flours[i][2]);
        }
        return b;
    }

    static Bakery withAllergens(int... sets) {
        Bakery b = new Bakery();
        for (int set : sets) {
            b.addRecipe(50, 1, 1, 100, set);
        }
        return b;
    }

    static Bakery withNotes(int... wanted) {
        Bakery b = withRecipes(2);
        for (int number : wanted) {
            b.note(0, number);
        }
        return b;
    }

    static Bakery withText(String text) {
        Bakery b = withRecipes(1);
        Due.type(b, text);
        return b;
    }

    static void passTo(Bakery b, int tick) {
        int left = tick - b.now();
        while (left > 0) {
            int ticks = Math.min(left, 200);
            b.pass(ticks);
            left -= ticks;
        }
    }
}
