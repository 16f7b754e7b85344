/** All that the calls which change nothing tell of a bakery, as one text. */
final class Look {
    private Look() {
    }

    static String at(OvenRound b) {
        StringBuilder seen = new StringBuilder();
        say(seen, "numbers", b.recipeCount(), b.now(), b.doughCount(), b.heat(), b.inPlan(), b.late(),
                b.fault(), b.type(0), b.actCount(), b.meanAge(), b.thrownShare(), b.checksum(), b.errors());
        for (int good = 0; good < 8; good++) {
            say(seen, "store", b.store(good));
        }
        for (int what = 0; what <= 6; what++) {
            say(seen, "book", b.book(what));
        }
        for (int recipe = 0; recipe < b.recipeCount(); recipe++) {
            sayRecipe(seen, b, recipe);
        }
        for (int dough = 0; dough < b.doughCount(); dough++) {
            say(seen, "dough", b.planned(dough));
            for (int what = 0; what <= 6; what++) {
                say(seen, "dough", b.doughAt(dough, what));
            }
        }
        sayFlours(seen, b);
        sayCart(seen, b);
        for (int set = 0; set < 1 << b.recipeCount(); set++) {
            say(seen, "cleaning", b.cleaning(set));
        }
        return seen.toString();
    }

    private static void sayRecipe(StringBuilder seen, OvenRound b, int recipe) {
        for (int good = 0; good < 8; good++) {
            int asked = good;
            say(seen, "amount", Due.answerOf(() -> b.amount(recipe, 99991, asked)));
        }
        for (int age = 0; age < 4; age++) {
            say(seen, "breads", b.breads(recipe, age));
        }
        for (int number = 0; number < 100; number += 7) {
            say(seen, "loss", b.loss(recipe, number, 3, 5));
        }
        say(seen, "best", Due.answerOf(() -> b.bestNumber(recipe, 1, 3)));
    }

    private static void sayFlours(StringBuilder seen, OvenRound b) {
        for (int low = 0; low <= 200; low += 25) {
            int bound = low;
            say(seen, "mix", Due.answerOf(() -> b.mixCost(bound, bound, false)));
            for (int flour = 0; flour < 4; flour++) {
                int asked = flour;
                say(seen, "share", Due.answerOf(() -> b.mixShare(bound, 200, asked, false)),
                        Due.answerOf(() -> b.mixShare(bound, 200, asked, true)));
            }
        }
    }

    private static void sayCart(StringBuilder seen, OvenRound b) {
        for (int begin = 0; begin <= 600; begin += 150) {
            int at = begin;
            say(seen, "back", Due.answerOf(() -> b.comesBack(at)));
            for (int index = 0; index < 8; index++) {
                int asked = index;
                say(seen, "shop", Due.answerOf(() -> b.shopOf(at, asked)));
            }
        }
    }

    private static void say(StringBuilder seen, String name, Object... answers) {
        seen.append(name);
        for (Object answer : answers) {
            seen.append(' ').append(answer);
        }
        seen.append('\n');
    }
}
