/** Promises 41 and 46 to 49: books and measures. */
public final class BookTest {
    private static final Due due = new Due();

    public static void main(String[] args) {
        books();
        refuses();
        meanAge();
        thrownShare();
        checksum();
        errors();
        due.end();
    }

    private static void books(Bakery b, int... want) {
        int sum = 0;
        for (int what = 0; what < 7; what++) {
            int asked = what;
            due.is("book " + what, want[what], () -> b.book(asked));
            sum += what > 0 ? want[what] : 0;
        }
        int told = sum;
        due.is("the sum of the books", told, () -> b.book(0));
    }

    private static void books() {
        Bakery b = Due.withRecipe(100, 1, 200, 100);
        b.receive(5, 10);
        books(b, 200010, 0, 0, 200010, 0, 0, 0);
        b.mix(0, 1);
        b.mix(0, 2);
        b.mix(0, 4);
        b.mix(0, 8);
        books(b, 200010, 0, 0, 198510, 1500, 0, 0);
        b.setHeat(100);
        b.pass(20);
        b.shape(1);
        b.bake(2);
        b.throwAway(0);
        books(b, 200010, 0, 100, 198510, 1000, 400, 0);
        b.bake(3);
        b.pass(10);
        books(b, 200010, 0, 100, 198510, 200, 0, 1200);
        b.sell(0, 3);
        b.endDay();
        books(b, 200010, 300, 100, 198510, 200, 0, 900);
        b.endDay();
        b.endDay();
        b.bake(1);
        b.pass(10);
        books(b, 200010, 300, 100, 198510, 0, 0, 1100);
        due.is("endDay", 9, () -> b.endDay());
        books(b, 200010, 300, 1000, 198510, 0, 0, 200);
        b.crumble(0);
        books(b, 200010, 300, 1000, 198710, 0, 0, 0);
    }

    private static void refuses() {
        Bakery b = new Bakery();
        for (int what : new int[] {-1, 7, Integer.MIN_VALUE, Integer.MAX_VALUE}) {
            due.refuses(b, "book " + what, Due.ARGUMENT, () -> b.book(what));
        }
    }

    private static Bakery baked(int... pieces) {
        Bakery b = Due.withRecipe(100, 1, 200, 100);
        b.setHeat(100);
        b.pass(20);
        for (int number : pieces) {
            b.endDay();
            int dough = b.mix(0, number);
            b.pass(10);
            b.bake(dough);
            b.pass(10);
        }
        return b;
    }

    private static void meanAge() {
        due.is("without breads", 0.0, () -> new Bakery().meanAge());
        Bakery b = baked(1, 2, 4);
        due.is("meanAge", 4.0 / 7.0, () -> b.meanAge());
        b.endDay();
        due.is("meanAge a day later", 11.0 / 7.0, () -> b.meanAge());
        b.sell(0, 3);
        due.is("meanAge of those left", 1.0, () -> b.meanAge());
        b.sell(0, 4);
        due.is("all sold", 0.0, () -> b.meanAge());
    }

    private static void thrownShare() {
        due.is("nothing came in", 0.0f, () -> new Bakery().thrownShare());
        Bakery b = Due.withRecipe(100, 1, 200, 100);
        due.is("nothing thrown", 0.0f, () -> b.thrownShare());
        b.receive(1, 7);
        b.mix(0, 3);
        b.throwAway(0);
        due.is("300 of 200007", 300.0f / 200007.0f, () -> b.thrownShare());
    }

    private static void checksum() {
        long c = 17;
        for (int i = 0; i < 9; i++) {
            c *= 31;
        }
        long empty = c;
        due.is("checksum of a new bakery", empty, () -> new Bakery().checksum());
        Bakery b = baked(2, 3);
        b.addRecipe(50, 1, 1, 100, 0);
        b.receive(6, 9);
        b.mix(0, 1);
        b.pass(1);
        int[] all = {61, 200000 - 600, 0, 0, 0, 0, 0, 9, 0, OvenRound.BAKED, 20, OvenRound.BAKED, 20,
            OvenRound.RISING, 2, 3, 2, 0, 0, 0, 0, 0, 0};
        c = 17;
        for (int number : all) {
            c = 31 * c + number;
        }
        long want = c;
        due.is("checksum", want, () -> b.checksum());
    }

    private static void errors() {
        Bakery b = baked(1, 2, 3);
        due.is("errors", 0, () -> b.errors());
        b.setDecks(1);
        b.addRecipe(50, 1, 20, 100, 0);
        b.setPart(1, 0, 1);
        for (int i = 0; i < 3; i++) {
            b.mix(1, 1);
        }
        due.is("late", 2, () -> b.late());
        due.is("errors with late doughs", 0, () -> b.errors());
        for (int i = 0; i < 7; i++) {
            b.addShop(5 * i % 7, 3 * i % 7, 0, 60 + 10 * i, 2);
            due.is("errors with shops", 0, () -> b.errors());
        }
    }
}
