/**
 * Runs of calls drawn by a counted row of numbers, the same ones each time, asked of a bakery and
 * of the model. Each run leans towards some calls, so that all corners are reached.
 */
public final class ModelTest {
    private static final int RUNS = 1600;
    /** The calls that are kept for the books at the end of a run. */
    private static final int CALLS_OF_BOOKS = 8;
    private static final String TEXT_SIGNS = "0123456789::,, 01234567:,8x";

    private final Due due = new Due();
    private long drawn;
    private Bakery bakery;
    private Model model;
    private int run;
    private int lean;

    public static void main(String[] args) {
        ModelTest test = new ModelTest();
        for (int run = 0; run < RUNS; run++) {
            test.run(run);
        }
        test.due.end();
    }

    private int draw(int below) {
        drawn = drawn * 6364136223846793005L + 1442695040888963407L;
        return below <= 1 ? 0 : (int) ((drawn >>> 33) % below);
    }

    /** Mostly within the bounds, sometimes at them, seldom outside. */
    private int draw(int least, int greatest) {
        switch (draw(24)) {
            case 0:
                return least;
            case 1:
                return greatest;
            case 2:
                return draw(4) > 0 ? least + draw(greatest - least + 1)
                        : new int[] {least - 1, greatest + 1, Integer.MIN_VALUE, Integer.MAX_VALUE}[draw(4)];
            default:
                return least + draw(greatest - least + 1);
        }
    }

    private int recipe() {
        return draw(0, Math.max(0, model.s.recipes.size() - 1));
    }

    private int dough() {
        return draw(0, Math.max(0, model.s.doughs.size() - 1));
    }

    /** Asks nothing any more as soon as just the calls of the books are left. */
    private void is(String call, Due.Call got, Due.Call want) {
        if (bakery.left() > CALLS_OF_BOOKS) {
            due.is("run " + run + ": " + call, Due.answerOf(want), got);
        }
    }

    private void run(int number) {
        run = number;
        drawn = number;
        lean = number % 6;
        bakery = new Bakery();
        model = new Model();
        if (number % 4 > 0) {
            openBakery();
        }
        while (bakery.left() > CALLS_OF_BOOKS) {
            int area = draw(10);
            if (area < 5) {
                area = lean;
            } else {
                area = draw(6);
            }
            switch (area) {
                case 0:
                    storeCall();
                    break;
                case 1:
                case 2:
                    doughCall();
                    break;
                case 3:
                    textCall();
                    break;
                case 4:
                    searchCall();
                    break;
                default:
                    breadCall();
                    break;
            }
            bookCall();
        }
        due.is("run " + run + ": all books", modelBooks(), () -> books());
    }

    /** So that doughs can be made, rise and be baked in most runs. */
    private void openBakery() {
        for (int good = 0; good < 7; good++) {
            int asked = good;
            is("receive " + good, () -> bakery.receive(asked, 200000), () -> model.receive(asked, 200000));
        }
        for (int recipe = 0; recipe < 3; recipe++) {
            int added = recipe;
            int piece = 50 + draw(200);
            int low = 1 + draw(20);
            int high = low + draw(80);
            int heat = 100 + draw(30);
            is("addRecipe", () -> bakery.addRecipe(piece, low, high, heat, added),
                    () -> model.addRecipe(piece, low, high, heat, added));
            for (int good = draw(3); good < 7; good += 1 + draw(4)) {
                int asked = good;
                int parts = 1 + draw(9);
                is("setPart", () -> bakery.setPart(added, asked, parts), () -> model.setPart(added, asked, parts));
            }
        }
        is("setHeat", () -> bakery.setHeat(130), () -> model.setHeat(130));
        is("pass", () -> bakery.pass(30), () -> model.pass(30));
    }

    /** Mixes some doughs, lets them rise to the begin of a round and tries to bake all. */
    private void bakeSome() {
        int mixed = 1 + draw(3);
        for (int i = 0; i < mixed; i++) {
            int recipe = recipe();
            int pieces = 1 + draw(12);
            is("mix " + recipe + " " + pieces, () -> bakery.mix(recipe, pieces), () -> model.mix(recipe, pieces));
        }
        int ticks = 1 + draw(20);
        is("pass " + ticks, () -> bakery.pass(ticks), () -> model.pass(ticks));
        for (int dough = 0; dough < model.s.doughs.size(); dough++) {
            int asked = dough;
            is("planned " + dough, () -> bakery.planned(asked), () -> model.planned(asked));
            if (draw(3) == 0) {
                is("shape " + dough, () -> bakery.shape(asked), () -> model.shape(asked));
            }
        }
        is("inPlan", () -> bakery.inPlan(), () -> model.inPlan());
        is("late", () -> bakery.late(), () -> model.late());
        int toRound = passTicks();
        is("pass " + toRound, () -> bakery.pass(toRound), () -> model.pass(toRound));
        for (int dough = 0; dough < model.s.doughs.size(); dough++) {
            int asked = dough;
            is("planned " + dough, () -> bakery.planned(asked), () -> model.planned(asked));
            is("bake " + dough, () -> bakery.bake(asked), () -> model.bake(asked));
        }
    }

    private String books() {
        StringBuilder all = new StringBuilder();
        for (int what = 0; what < 7; what++) {
            all.append(bakery.book(what)).append(' ');
        }
        return all.append(bakery.checksum()).toString();
    }

    private String modelBooks() {
        StringBuilder all = new StringBuilder();
        for (int what = 0; what < 7; what++) {
            all.append(model.book(what)).append(' ');
        }
        return all.append(model.checksum()).toString();
    }

    private void storeCall() {
        int a = draw(0, 7);
        int b = draw(1, draw(3) == 0 ? 200000 : 30000);
        int r = recipe();
        int p = draw(2) == 0 ? draw(0, 9999) : draw(0, 9);
        int low = draw(1, 40);
        int high = draw(low, 60);
        int piece = draw(50, draw(2) == 0 ? 200 : 2000);
        int heat = draw(100, 140);
        int set = draw(0, 15);
        int wait = draw(0, draw(2) == 0 ? 30 : 99);
        int grams = draw(1, 100000);
        switch (draw(7)) {
            case 0:
                is("receive " + a + " " + b, () -> bakery.receive(a, b), () -> model.receive(a, b));
                break;
            case 1:
                is("addRecipe " + piece + " " + low + " " + high + " " + heat + " " + set,
                        () -> bakery.addRecipe(piece, low, high, heat, set),
                        () -> model.addRecipe(piece, low, high, heat, set));
                break;
            case 2:
                is("setWait " + r + " " + wait, () -> bakery.setWait(r, wait), () -> model.setWait(r, wait));
                break;
            case 3:
                is("setPart " + r + " " + a + " " + p, () -> bakery.setPart(r, a, p), () -> model.setPart(r, a, p));
                break;
            case 4:
                is("amount " + r + " " + grams + " " + a, () -> bakery.amount(r, grams, a),
                        () -> model.amount(r, grams, a));
                break;
            case 5:
                is("store " + a, () -> bakery.store(a), () -> model.store(a));
                break;
            default:
                is("recipeCount", () -> bakery.recipeCount(), () -> model.s.recipes.size());
                break;
        }
    }

    private void doughCall() {
        int r = recipe();
        int d = dough();
        int pieces = draw(1, 40);
        int warmth = draw(0, 5);
        int ticks = passTicks();
        int what = draw(0, 6);
        if (draw(6) == 0) {
            bakeSome();
            return;
        }
        int heat = draw(6) > 0 ? draw(115, 150) : draw(20, 320);
        int decks = draw(1, 4);
        switch (draw(14)) {
            case 0:
            case 1:
                is("mix " + r + " " + pieces, () -> bakery.mix(r, pieces), () -> model.mix(r, pieces));
                break;
            case 2:
                is("setWarmth " + warmth, () -> bakery.setWarmth(warmth), () -> model.setWarmth(warmth));
                break;
            case 3:
            case 4:
                is("pass " + ticks, () -> bakery.pass(ticks), () -> model.pass(ticks));
                break;
            case 5:
                is("shape " + d, () -> bakery.shape(d), () -> model.shape(d));
                break;
            case 6:
                is("doughAt " + d + " " + what, () -> bakery.doughAt(d, what), () -> model.doughAt(d, what));
                break;
            case 7:
                if (draw(5) == 0) {
                    is("throwAway " + d, () -> bakery.throwAway(d), () -> model.throwAway(d));
                }
                break;
            case 8:
                is("setHeat " + heat, () -> bakery.setHeat(heat), () -> model.setHeat(heat));
                break;
            case 9:
                is("setDecks " + decks, () -> bakery.setDecks(decks), () -> model.setDecks(decks));
                break;
            case 10:
            case 11:
                is("bake " + d, () -> bakery.bake(d), () -> model.bake(d));
                break;
            case 12:
                is("planned " + d, () -> bakery.planned(d), () -> model.planned(d));
                break;
            default:
                is("inPlan", () -> bakery.inPlan(), () -> model.inPlan());
                is("late", () -> bakery.late(), () -> model.late());
                break;
        }
    }

    /** Often just to the begin of the next round. */
    private int passTicks() {
        int kind = draw(6);
        return kind < 3 ? 10 - model.s.tick % 10 : kind < 5 ? draw(1, 12) : draw(1, 200);
    }

    private void textCall() {
        int r = recipe();
        if (draw(4) == 0) {
            is("readParts " + r, () -> bakery.readParts(r), () -> model.readParts(r));
            is("fault behind readParts", () -> bakery.fault(), () -> model.fault());
            return;
        }
        StringBuilder typed = new StringBuilder();
        int parts = draw(4);
        int good = 0;
        for (int i = 0; i < parts; i++) {
            good += draw(3);
            typed.append(i > 0 ? "," : "").append(blanks()).append(good).append(blanks()).append(':')
                    .append(blanks()).append(draw(10000)).append(blanks());
            good++;
        }
        for (int i = draw(6); i < 2; i++) {
            typed.insert(draw(typed.length() + 1), TEXT_SIGNS.charAt(draw(TEXT_SIGNS.length())));
        }
        for (int from = 0; from < typed.length(); from += 8) {
            long bytes = 0;
            for (int i = from; i < Math.min(from + 8, typed.length()); i++) {
                bytes = bytes << (draw(9) == 0 && i - from == 0 ? 0 : 8) | typed.charAt(i);
            }
            if (draw(60) == 0) {
                bytes |= 0x80L << 8 * draw(8);
            }
            long all = bytes;
            is("type " + all, () -> bakery.type(all), () -> model.type(all));
        }
        is("fault of " + model.text, () -> bakery.fault(), () -> model.fault());
    }

    private String blanks() {
        return "   ".substring(0, draw(5) == 0 ? draw(4) : 0);
    }

    private void searchCall() {
        int low = draw(0, 200);
        int high = draw(3) == 0 ? low : draw(low, 200);
        int flour = draw(0, 3);
        int strength = draw(2) == 0 ? draw(0, 200) : 50 * draw(5);
        int cost = draw(2) == 0 ? draw(0, 999) : draw(0, 3);
        int cap = draw(2) == 0 ? draw(0, 100) : 25 * draw(5);
        boolean isBottom = draw(2) == 0;
        switch (draw(8)) {
            case 0:
            case 1:
                is("setFlour " + flour + " " + strength + " " + cost + " " + cap,
                        () -> bakery.setFlour(flour, strength, cost, cap),
                        () -> model.setFlour(flour, strength, cost, cap));
                break;
            case 2:
                is("mixCost " + low + " " + high + " " + isBottom,
                        () -> bakery.mixCost(low, high, isBottom), () -> model.mixCost(low, high, isBottom));
                break;
            case 3:
                is("mixShare " + low + " " + high + " " + flour + " " + isBottom,
                        () -> bakery.mixShare(low, high, flour, isBottom),
                        () -> model.mixShare(low, high, flour, isBottom));
                break;
            case 4:
                cleaningCall();
                break;
            default:
                cartCall();
                break;
        }
    }

    private void cleaningCall() {
        int set = draw(0, (1 << model.s.recipes.size()) - 1);
        int index = draw(0, 5);
        is("cleaning " + set, () -> bakery.cleaning(set), () -> model.cleaning(set));
        is("rowAt " + set + " " + index, () -> bakery.rowAt(set, index), () -> model.rowAt(set, index));
    }

    private void cartCall() {
        int x = draw(0, draw(2) == 0 ? 4 : 20);
        int y = draw(0, draw(2) == 0 ? 4 : 20);
        int opening = draw(0, draw(2) == 0 ? 60 : 600);
        int closing = draw(opening, 600);
        int stay = draw(0, 30);
        int begin = draw(0, draw(2) == 0 ? 60 : 600);
        int index = draw(0, Math.max(0, model.s.shops.size() - 1));
        int way = way();
        switch (draw(30) == 0 && run % 3 == 0 ? 4 : draw(4)) {
            case 0:
            case 4:
                if (model.s.shops.size() < 3 || draw(5) == 0) {
                    is("addShop " + x + " " + y + " " + opening + " " + closing + " " + stay,
                            () -> bakery.addShop(x, y, opening, closing, stay),
                            () -> model.addShop(x, y, opening, closing, stay));
                }
                break;
            case 1:
                is("comesBack " + begin, () -> bakery.comesBack(begin), () -> model.comesBack(begin));
                break;
            case 2:
                is("shopOf " + begin + " " + index, () -> bakery.shopOf(begin, index),
                        () -> model.shopOf(begin, index));
                break;
            default:
                is("wayBack " + begin + " " + way, () -> bakery.wayBack(begin, way),
                        () -> model.wayBack(begin, way));
                break;
        }
    }

    private int way() {
        int shops = model.s.shops.size();
        if (draw(6) == 0) {
            return draw(0, 200);
        }
        int way = 0;
        int visited = 0;
        while (Integer.bitCount(visited) < shops) {
            int shop = draw(shops);
            if ((visited >> shop & 1) == 0) {
                visited |= 1 << shop;
                way = 10 * way + shop;
            }
        }
        return way;
    }

    private void breadCall() {
        int r = recipe();
        int age = draw(0, 3);
        int pieces = draw(1, draw(2) == 0 ? 9 : 99);
        int wanted = draw(0, 99);
        int over = draw(0, 99);
        int under = draw(0, 99);
        switch (draw(8)) {
            case 0:
                is("breads " + r + " " + age, () -> bakery.breads(r, age), () -> model.breads(r, age));
                break;
            case 1:
                if (draw(3) == 0) {
                    is("endDay", () -> bakery.endDay(), () -> model.endDay());
                }
                break;
            case 2:
                is("sell " + r + " " + pieces, () -> bakery.sell(r, pieces), () -> model.sell(r, pieces));
                break;
            case 3:
                if (draw(3) == 0) {
                    is("crumble " + r, () -> bakery.crumble(r), () -> model.crumble(r));
                }
                break;
            case 4:
            case 5:
                is("note " + r + " " + wanted, () -> bakery.note(r, wanted), () -> model.note(r, wanted));
                break;
            case 6:
                is("bestNumber " + r + " " + over + " " + under, () -> bakery.bestNumber(r, over, under),
                        () -> model.bestNumber(r, over, under));
                break;
            default:
                is("loss " + r + " " + wanted + " " + over + " " + under,
                        () -> bakery.loss(r, wanted, over, under), () -> model.loss(r, wanted, over, under));
                break;
        }
    }

    private void bookCall() {
        int what = draw(0, 6);
        switch (draw(12)) {
            case 0:
                is("book " + what, () -> bakery.book(what), () -> model.book(what));
                break;
            case 1:
                if (draw(2) == 0) {
                    is("undo", () -> bakery.undo(), () -> model.undo());
                }
                break;
            case 2:
                is("checksum", () -> bakery.checksum(), () -> model.checksum());
                break;
            case 3:
                is("meanAge", () -> bakery.meanAge(), () -> model.meanAge());
                is("thrownShare", () -> bakery.thrownShare(), () -> model.thrownShare());
                break;
            case 4:
                is("errors", () -> bakery.errors(), () -> 0);
                break;
            case 5:
                is("now", () -> bakery.now(), () -> model.s.tick);
                is("heat", () -> bakery.heat(), () -> model.s.heat);
                is("doughCount", () -> bakery.doughCount(), () -> model.s.doughs.size());
                is("actCount", () -> bakery.actCount(), () -> model.past.size());
                break;
            default:
                break;
        }
    }
}
