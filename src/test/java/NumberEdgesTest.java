/** The edges that the document names in "Terms", section 8, and in the promises 32 to 34. */
public final class NumberEdgesTest {
    private static final Due due = new Due();

    public static void main(String[] args) {
        due.runAll(NumberEdgesTest.class);
    }

    private static Bakery withEqualNotes(int number, int wanted) {
        int[] notes = new int[number];
        java.util.Arrays.fill(notes, wanted);
        return Made.withNotes(notes);
    }

    /** Promise 32, recipe: "number of a recipe". */
    private static void notesOfARecipe() {
        due.refuses(Due.INDEX, "note(0, 1) without recipes", new Bakery(), b -> b.note(0, 1));
        due.edge("note(recipe, 1) of two", Made::withNotes, (b, recipe) -> b.note(recipe, 1)).takes(0, 1).takes(1, 1)
                .refusesOutside(Due.INDEX, 0, 1);
        due.edge("note(recipe, 1) of six", () -> Made.withRecipes(6), (b, recipe) -> b.note(recipe, 1)).takes(5, 1)
                .refusesOutside(Due.INDEX, 0, 5);
    }

    /** Promise 32, wanted: "0 to 99". */
    private static void notesWantedPieces() {
        due.edge("note(0, wanted)", Made::withNotes, (b, wanted) -> b.note(0, wanted)).takes(0, 1).takes(99, 1)
                .refusesOutside(Due.ARGUMENT, 0, 99);
        due.is("the loss of the least note", 99, Made.withNotes(0), b -> b.loss(0, 99, 1, 0));
        due.is("the loss of the greatest note", 99, Made.withNotes(99), b -> b.loss(0, 0, 0, 1));
    }

    /** Promise 32: "IllegalStateException if it has 60 notes": the last one allowed and the first one refused. */
    private static void takesSixtyNotes() {
        due.is("the note 60", 60, withEqualNotes(59, 7), b -> b.note(0, 7));
        due.refuses(Due.STATE, "the note 61", withEqualNotes(60, 7), b -> b.note(0, 7));
    }

    /** Promise 32: "if it has 60 notes", those of other recipes do not count. */
    private static void countsNotesOfARecipeAlone() {
        Bakery b = withEqualNotes(60, 7);
        due.is("the other recipe", 1, () -> b.note(1, 7));
        due.is("the other recipe again", 2, () -> b.note(1, 9));
        due.is("loss of the full one", 60 * 2, () -> b.loss(0, 9, 1, 0));
        due.is("loss of the other one", 2, () -> b.loss(1, 9, 1, 0));
    }

    /** Promise 32: "Returns the number of notes of this recipe"; one that is undone does not count. */
    private static void countsNotes() {
        Bakery b = Made.withNotes(5, 6);
        due.is("the third one", 3, () -> b.note(0, 7));
        b.undo();
        due.is("the third one again", 3, () -> b.note(0, 99));
        due.is("loss", 1 + 94, () -> b.loss(0, 5, 1, 1));
        Bakery full = withEqualNotes(60, 7);
        full.undo();
        due.is("the last one again", 60, () -> full.note(0, 8));
        due.is("loss of the last one", 1, () -> full.loss(0, 7, 0, 1));
    }

    /** Promise 32, with Terms 13: the recipe is ahead of what was wanted, that ahead of the 60 notes. */
    private static void namesNotingFaultsInTheirOrder() {
        due.refuses(Due.INDEX, "note(2, 100)", Made.withNotes(), b -> b.note(2, 100));
        due.refuses(Due.INDEX, "note(-1, -1)", withEqualNotes(60, 7), b -> b.note(-1, -1));
        due.refuses(Due.ARGUMENT, "note(0, 100) of 60", withEqualNotes(60, 7), b -> b.note(0, 100));
        due.refuses(Due.ARGUMENT, "note(0, -1) of 60", withEqualNotes(60, 7), b -> b.note(0, -1));
    }

    /** Promise 33, recipe: "number of a recipe". */
    private static void findsTheBestOfARecipe() {
        due.refuses(Due.INDEX, "bestNumber(0, 1, 1) without recipes", new Bakery(), b -> b.bestNumber(0, 1, 1));
        due.edge("bestNumber(recipe, 1, 1)", () -> Made.withNotes(7), (b, recipe) -> b.bestNumber(recipe, 1, 1))
                .takes(0, 7).refuses(Due.ELEMENT, 1).refusesOutside(Due.INDEX, 0, 1);
    }

    /** Promise 33, over and under: "0 to 99". */
    private static void findsTheBestByOverAndUnder() {
        due.edge("bestNumber(0, over, 50)", () -> Made.withNotes(3, 8), (b, over) -> b.bestNumber(0, over, 50))
                .takes(0, 8).takes(50, 3).takes(99, 3).refusesOutside(Due.ARGUMENT, 0, 99);
        due.edge("bestNumber(0, 50, under)", () -> Made.withNotes(3, 8), (b, under) -> b.bestNumber(0, 50, under))
                .takes(0, 0).takes(50, 3).takes(99, 8).refusesOutside(Due.ARGUMENT, 0, 99);
    }

    /** Promise 33: "NoSuchElementException if it has no note", none yet and none any more. */
    private static void findsNoneWithoutNotes() {
        due.refuses(Due.ELEMENT, "no note yet", Made.withNotes(), b -> b.bestNumber(0, 1, 1));
        due.refuses(Due.ELEMENT, "no note of this recipe", Made.withNotes(1, 2, 3), b -> b.bestNumber(1, 1, 1));
        Bakery b = Made.withNotes(5);
        b.undo();
        due.refuses(Due.ELEMENT, "no note any more", b, x -> x.bestNumber(0, 1, 1));
    }

    /** Promise 33, with Terms 13: the recipe is ahead of over and under, these ahead of no note. */
    private static void namesFindingFaultsInTheirOrder() {
        due.refuses(Due.INDEX, "bestNumber(2, 100, 1)", Made.withNotes(1), b -> b.bestNumber(2, 100, 1));
        due.refuses(Due.INDEX, "bestNumber(-1, 1, -1)", Made.withNotes(), b -> b.bestNumber(-1, 1, -1));
        due.refuses(Due.ARGUMENT, "bestNumber(0, 100, 1) without notes", Made.withNotes(), b -> b.bestNumber(0, 100, 1));
        due.refuses(Due.ARGUMENT, "bestNumber(0, 1, -1) without notes", Made.withNotes(), b -> b.bestNumber(0, 1, -1));
    }

    /** Terms 8: "The best number is the least one from 0 to 99": both ends. */
    private static void findsTheLeastAndTheGreatestNumber() {
        due.is("all wanted 0", 0, withEqualNotes(60, 0), b -> b.bestNumber(0, 0, 99));
        due.is("all wanted 1", 1, withEqualNotes(60, 1), b -> b.bestNumber(0, 99, 1));
        due.is("one wanted 1", 1, withEqualNotes(1, 1), b -> b.bestNumber(0, 1, 1));
        due.is("all wanted 99", 99, withEqualNotes(60, 99), b -> b.bestNumber(0, 99, 1));
        due.is("all wanted 99, nothing for under", 0, withEqualNotes(60, 99), b -> b.bestNumber(0, 99, 0));
        due.is("all wanted 98", 98, withEqualNotes(60, 98), b -> b.bestNumber(0, 0, 1));
    }

    /** Terms 8: "the least one .. with the least loss", if several have it. */
    private static void findsTheLeastOfEqualNumbers() {
        due.is("3 to 8 are equal", 3, Made.withNotes(8, 3), b -> b.bestNumber(0, 7, 7));
        due.is("all are equal", 0, Made.withNotes(50, 60), b -> b.bestNumber(0, 0, 0));
        due.is("8 to 99 are equal", 8, Made.withNotes(8, 3), b -> b.bestNumber(0, 0, 1));
        due.is("0 to 3 are equal", 0, Made.withNotes(8, 3), b -> b.bestNumber(0, 1, 0));
    }

    /** Promise 34, recipe: "number of a recipe". */
    private static void tellsTheLossOfARecipe() {
        due.refuses(Due.INDEX, "loss(0, 1, 1, 1) without recipes", new Bakery(), b -> b.loss(0, 1, 1, 1));
        due.edge("loss(recipe, 9, 1, 1)", () -> Made.withNotes(7), (b, recipe) -> b.loss(recipe, 9, 1, 1)).takes(0, 2)
                .takes(1, 0).refusesOutside(Due.INDEX, 0, 1);
    }

    /** Promise 34, number, over and under: "0 to 99". */
    private static void tellsTheLossOfNumbers() {
        due.edge("loss(0, number, 3, 5)", () -> Made.withNotes(7), (b, number) -> b.loss(0, number, 3, 5)).takes(0, 35)
                .takes(99, 276).refusesOutside(Due.ARGUMENT, 0, 99);
        due.edge("loss(0, 9, over, 5)", () -> Made.withNotes(7), (b, over) -> b.loss(0, 9, over, 5)).takes(0, 0)
                .takes(99, 198).refusesOutside(Due.ARGUMENT, 0, 99);
        due.edge("loss(0, 5, 3, under)", () -> Made.withNotes(7), (b, under) -> b.loss(0, 5, 3, under)).takes(0, 0)
                .takes(99, 198).refusesOutside(Due.ARGUMENT, 0, 99);
    }

    /** Promise 34: "0 without notes". */
    private static void tellsNoLossWithoutNotes() {
        due.is("no note yet", 0, Made.withNotes(), b -> b.loss(0, 99, 99, 99));
        due.is("no note of this recipe", 0, Made.withNotes(1, 2), b -> b.loss(1, 0, 99, 99));
        Bakery b = Made.withNotes(5);
        b.undo();
        due.is("no note any more", 0, () -> b.loss(0, 99, 99, 99));
    }

    /** Terms 8: "over times what the number is more than the note, and under times what it is less". */
    private static void tellsOverAndUnder() {
        due.edge("loss(0, number, 3, 5)", () -> Made.withNotes(7), (b, number) -> b.loss(0, number, 3, 5)).takes(6, 5)
                .takes(7, 0).takes(8, 3);
        due.is("a note each way", 3 + 5, Made.withNotes(6, 8), b -> b.loss(0, 7, 3, 5));
    }

    /** Terms 8: "the sum, over all notes": the greatest losses. */
    private static void tellsTheGreatestLoss() {
        due.is("60 times 99 too many", 588060, withEqualNotes(60, 0), b -> b.loss(0, 99, 99, 0));
        due.is("60 times 99 too few", 588060, withEqualNotes(60, 99), b -> b.loss(0, 0, 0, 99));
    }

    /** Promise 34, with Terms 13: no such recipe is ahead of a number out of range. */
    private static void namesAWrongRecipeAheadOfANumber() {
        due.refuses(Due.INDEX, "loss(2, 100, 0, 0)", Made.withNotes(1), b -> b.loss(2, 100, 0, 0));
        due.refuses(Due.INDEX, "loss(-1, 0, 100, 0)", Made.withNotes(1), b -> b.loss(-1, 0, 100, 0));
        due.refuses(Due.INDEX, "loss(2, 0, 0, -1)", Made.withNotes(1), b -> b.loss(2, 0, 0, -1));
    }
}
