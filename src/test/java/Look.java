/**
 * What a bakery tells, as one text: the answers to questions, what only acts tell, and what is
 * remembered. Each of these looks is at a bakery made again by the same calls, so that it may change it.
 */
final class Look {
    private static final int RECIPES = 6;

    private final Bakery b;
    private final StringBuilder seen;
    private int left;

    private Look(Bakery same, int questions, StringBuilder seen) {
        b = same;
        left = questions;
        this.seen = seen;
    }

    /** No look asks more than so many questions. */
    static String at(Bakery bakery, int questions) {
        StringBuilder seen = new StringBuilder(atNow(bakery, questions));
        new Look(bakery.again(), questions, seen).undoAll();
        return seen.toString();
    }

    /** All but what is remembered. */
    static String atNow(Bakery bakery, int questions) {
        StringBuilder seen = new StringBuilder();
        new Look(bakery.again(), questions, seen).askAll();
        new Look(bakery.again(), questions, seen).askByActs();
        return seen.toString();
    }

    private Object ask(String name, Due.Call question) {
        if (left == 0) {
            return 0;
        }
        left--;
        Object answer = Due.answerOf(question);
        seen.append(name).append(' ').append(answer).append('\n');
        return answer;
    }

    private void askAll() {
        askMeasures();
        int recipes = (Integer) ask("recipeCount", () -> b.recipeCount());
        int doughs = (Integer) ask("doughCount", () -> b.doughCount());
        for (int recipe = 0; recipe < recipes; recipe++) {
            askRecipe(recipe);
        }
        for (int dough = 0; dough < doughs; dough++) {
            int asked = dough;
            ask("planned", () -> b.planned(asked));
            for (int what = 0; what <= 6; what++) {
                int askedWhat = what;
                ask("doughAt", () -> b.doughAt(asked, askedWhat));
            }
        }
        askFlours();
        askCart();
        askCleaning(recipes);
    }

    private void askMeasures() {
        ask("checksum", () -> b.checksum());
        ask("now", () -> b.now());
        ask("type(0)", () -> b.type(0));
        ask("fault", () -> b.fault());
        for (int what = 0; what <= 6; what++) {
            int asked = what;
            ask("book", () -> b.book(asked));
        }
        for (int good = 0; good <= 7; good++) {
            int asked = good;
            ask("store", () -> b.store(asked));
        }
        ask("heat", () -> b.heat());
        ask("inPlan", () -> b.inPlan());
        ask("late", () -> b.late());
        ask("meanAge", () -> b.meanAge());
        ask("thrownShare", () -> b.thrownShare());
        ask("errors", () -> b.errors());
    }

    private void askRecipe(int recipe) {
        for (int good = 0; good <= 7; good++) {
            int asked = good;
            ask("amount", () -> b.amount(recipe, 99991, asked));
        }
        for (int age = 0; age <= 3; age++) {
            int asked = age;
            ask("breads", () -> b.breads(recipe, asked));
        }
        for (int number = 0; number < 100; number += 33) {
            int asked = number;
            ask("loss", () -> b.loss(recipe, asked, 3, 5));
        }
        ask("bestNumber", () -> b.bestNumber(recipe, 1, 3));
    }

    private void askFlours() {
        for (int low = 0; low <= 200; low += 50) {
            int bound = low;
            ask("mixCost", () -> b.mixCost(bound, bound, false));
            for (int flour = 0; flour <= 3; flour++) {
                int asked = flour;
                ask("mixShare", () -> b.mixShare(bound, 200, asked, false));
                ask("mixShare", () -> b.mixShare(bound, 200, asked, true));
            }
        }
    }

    private void askCart() {
        for (int begin = 0; begin <= 600; begin += 300) {
            int asked = begin;
            ask("comesBack", () -> b.comesBack(asked));
            for (int index = 0; index <= 7; index++) {
                int askedIndex = index;
                ask("shopOf", () -> b.shopOf(asked, askedIndex));
            }
        }
    }

    private void askCleaning(int recipes) {
        int all = (1 << recipes) - 1;
        for (int index = 0; index <= recipes; index++) {
            int asked = index;
            ask("rowAt", () -> b.rowAt(all, asked));
        }
        for (int set = 0; set <= all; set++) {
            int asked = set;
            if (Integer.bitCount(set) == 2) {
                ask("cleaning", () -> b.cleaning(asked));
            }
        }
    }

    /** What no question tells: acts tell what was before them, or change things by it. */
    private void askByActs() {
        ask("setWarmth", () -> b.setWarmth(2));
        ask("setDecks", () -> b.setDecks(2));
        ask("pass", () -> b.pass(1));
        ask("heat behind a tick", () -> b.heat());
        ask("readParts", () -> b.readParts(0));
        for (int recipe = 0; recipe < RECIPES; recipe++) {
            int asked = recipe;
            ask("setWait", () -> b.setWait(asked, 1));
            ask("note", () -> b.note(asked, 1));
            for (int good = 0; good <= 7; good++) {
                int askedGood = good;
                ask("setPart", () -> b.setPart(asked, askedGood, 1));
            }
        }
        for (int flour = 0; flour <= 3; flour++) {
            int asked = flour;
            ask("setFlour", () -> b.setFlour(asked, 1, 1, 1));
        }
        ask("addRecipe", () -> b.addRecipe(50, 1, 1, 100, 0));
        ask("addShop", () -> b.addShop(0, 0, 0, 600, 0));
        ask("wayBack", () -> b.wayBack(0, 123456));
    }

    private void undoAll() {
        ask("actCount", () -> b.actCount());
        for (int acts = 0; acts <= 8; acts++) {
            ask("undo", () -> b.undo());
            ask("checksum", () -> b.checksum());
            ask("book 0", () -> b.book(0));
            ask("book 1", () -> b.book(1));
            ask("book 2", () -> b.book(2));
            ask("recipeCount", () -> b.recipeCount());
            ask("mixCost", () -> b.mixCost(0, 200, false));
            ask("comesBack", () -> b.comesBack(0));
            ask("loss", () -> b.loss(0, 50, 1, 2));
            ask("inPlan", () -> b.inPlan());
        }
    }
}
