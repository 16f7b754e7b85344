/** Promises 32 to 34: notes, the best number and its loss. */
public final class NumberTest {
    private static final Due due = new Due();

    public static void main(String[] args) {
        notes();
        findsBest();
        tellsLoss();
        refuses();
        due.end();
    }

    private static void notes() {
        Bakery b = Due.withRecipe(50, 1, 9, 100);
        b.addRecipe(50, 1, 9, 100, 0);
        due.is("note(0, 0)", 1, () -> b.note(0, 0));
        due.is("note(0, 99)", 2, () -> b.note(0, 99));
        due.is("note(1, 4)", 1, () -> b.note(1, 4));
        for (int i = 3; i <= 60; i++) {
            int number = i;
            due.is("note(0, 5)", number, () -> b.note(0, 5));
        }
        due.refuses(b, "note 61", Due.STATE, () -> b.note(0, 5));
        due.refuses(b, "note 61 out of range", Due.ARGUMENT, () -> b.note(0, 100));
        due.is("note(1, 5)", 2, () -> b.note(1, 5));
        due.is("loss of 60 notes", 5 * 7 + 94 * 9, () -> b.loss(0, 5, 7, 9));
    }

    private static void findsBest() {
        Bakery b = Due.withRecipe(50, 1, 9, 100);
        for (int wanted : new int[] {30, 10, 20, 40}) {
            b.note(0, wanted);
        }
        due.is("bestNumber(0, 1, 1)", 20, () -> b.bestNumber(0, 1, 1));
        due.is("bestNumber(0, 1, 3)", 30, () -> b.bestNumber(0, 1, 3));
        due.is("bestNumber(0, 1, 4)", 40, () -> b.bestNumber(0, 1, 4));
        due.is("bestNumber(0, 3, 1)", 10, () -> b.bestNumber(0, 3, 1));
        due.is("bestNumber(0, 4, 1)", 10, () -> b.bestNumber(0, 4, 1));
        due.is("bestNumber(0, 0, 0)", 0, () -> b.bestNumber(0, 0, 0));
        due.is("bestNumber(0, 99, 0)", 0, () -> b.bestNumber(0, 99, 0));
        due.is("bestNumber(0, 0, 99)", 40, () -> b.bestNumber(0, 0, 99));
        b.note(0, 99);
        due.is("bestNumber(0, 0, 1)", 99, () -> b.bestNumber(0, 0, 1));
    }

    private static void tellsLoss() {
        Bakery b = Due.withRecipe(50, 1, 9, 100);
        b.addRecipe(50, 1, 9, 100, 0);
        due.is("loss without notes", 0, () -> b.loss(0, 99, 99, 99));
        b.note(0, 10);
        b.note(0, 20);
        due.is("loss(0, 12, 3, 1)", 14, () -> b.loss(0, 12, 3, 1));
        due.is("loss(0, 0, 99, 99)", 2970, () -> b.loss(0, 0, 99, 99));
        due.is("loss(0, 99, 2, 5)", 336, () -> b.loss(0, 99, 2, 5));
        due.is("loss(0, 15, 0, 0)", 0, () -> b.loss(0, 15, 0, 0));
        due.is("loss of the other recipe", 0, () -> b.loss(1, 15, 9, 9));
    }

    private static void refuses() {
        Bakery b = Due.withRecipe(50, 1, 9, 100);
        due.refuses(b, "note(1, 100)", Due.INDEX, () -> b.note(1, 100));
        due.refuses(b, "note(-1, 1)", Due.INDEX, () -> b.note(-1, 1));
        due.refuses(b, "note(0, -1)", Due.ARGUMENT, () -> b.note(0, -1));
        due.refuses(b, "note(0, 100)", Due.ARGUMENT, () -> b.note(0, 100));
        due.refuses(b, "bestNumber without notes", Due.ELEMENT, () -> b.bestNumber(0, 1, 1));
        due.refuses(b, "bestNumber(1, 100, 0)", Due.INDEX, () -> b.bestNumber(1, 100, 0));
        due.refuses(b, "loss(1, 100, 0, 0)", Due.INDEX, () -> b.loss(1, 100, 0, 0));
        due.refuses(b, "loss(-1, 0, 0, 0)", Due.INDEX, () -> b.loss(-1, 0, 0, 0));
        for (int wrong : new int[] {-1, 100, Integer.MIN_VALUE, Integer.MAX_VALUE}) {
            due.refuses(b, "bestNumber over " + wrong, Due.ARGUMENT, () -> b.bestNumber(0, wrong, 1));
            due.refuses(b, "bestNumber under " + wrong, Due.ARGUMENT, () -> b.bestNumber(0, 1, wrong));
            due.refuses(b, "loss number " + wrong, Due.ARGUMENT, () -> b.loss(0, wrong, 1, 1));
            due.refuses(b, "loss over " + wrong, Due.ARGUMENT, () -> b.loss(0, 1, wrong, 1));
            due.refuses(b, "loss under " + wrong, Due.ARGUMENT, () -> b.loss(0, 1, 1, wrong));
        }
    }
}
