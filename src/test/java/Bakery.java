import java.util.ArrayList;
import java.util.List;

/**
 * An OvenRound that keeps the row of its calls, so that the same one can be made again for each look
 * at it, and that lets no test go beyond the calls for which the document answers.
 */
final class Bakery {
    interface Step {
        Object on(OvenRound oven);
    }

    static final int MOST_CALLS = 512;

    private final OvenRound oven = new OvenRound();
    private final List<Step> steps = new ArrayList<>();

    /** Another one that has been through the same calls, refused ones too. */
    Bakery again() {
        Bakery same = new Bakery();
        for (Step step : steps) {
            Due.answerOf(() -> same.passOn(step));
        }
        return same;
    }

    /** How many calls it still answers. */
    int left() {
        return MOST_CALLS - steps.size();
    }

    private Object passOn(Step step) {
        if (left() == 0) {
            throw new AssertionError("a test goes beyond the call " + MOST_CALLS);
        }
        steps.add(step);
        return step.on(oven);
    }

    private int number(Step step) {
        return (Integer) passOn(step);
    }

    int receive(int good, int grams) {
        return number(o -> o.receive(good, grams));
    }

    int store(int good) {
        return number(o -> o.store(good));
    }

    int addRecipe(int piece, int low, int high, int heat, int allergens) {
        return number(o -> o.addRecipe(piece, low, high, heat, allergens));
    }

    int setWait(int recipe, int wait) {
        return number(o -> o.setWait(recipe, wait));
    }

    int setPart(int recipe, int good, int parts) {
        return number(o -> o.setPart(recipe, good, parts));
    }

    int readParts(int recipe) {
        return number(o -> o.readParts(recipe));
    }

    int amount(int recipe, int grams, int good) {
        return number(o -> o.amount(recipe, grams, good));
    }

    int recipeCount() {
        return number(o -> o.recipeCount());
    }

    int mix(int recipe, int pieces) {
        return number(o -> o.mix(recipe, pieces));
    }

    int setWarmth(int warmth) {
        return number(o -> o.setWarmth(warmth));
    }

    int pass(int ticks) {
        return number(o -> o.pass(ticks));
    }

    int now() {
        return number(o -> o.now());
    }

    int shape(int dough) {
        return number(o -> o.shape(dough));
    }

    int doughAt(int dough, int what) {
        return number(o -> o.doughAt(dough, what));
    }

    int throwAway(int dough) {
        return number(o -> o.throwAway(dough));
    }

    int doughCount() {
        return number(o -> o.doughCount());
    }

    int setHeat(int heat) {
        return number(o -> o.setHeat(heat));
    }

    int heat() {
        return number(o -> o.heat());
    }

    int setDecks(int decks) {
        return number(o -> o.setDecks(decks));
    }

    int bake(int dough) {
        return number(o -> o.bake(dough));
    }

    int planned(int dough) {
        return number(o -> o.planned(dough));
    }

    int inPlan() {
        return number(o -> o.inPlan());
    }

    int late() {
        return number(o -> o.late());
    }

    int breads(int recipe, int age) {
        return number(o -> o.breads(recipe, age));
    }

    int endDay() {
        return number(o -> o.endDay());
    }

    int sell(int recipe, int pieces) {
        return number(o -> o.sell(recipe, pieces));
    }

    int crumble(int recipe) {
        return number(o -> o.crumble(recipe));
    }

    int setFlour(int flour, int strength, int cost, int cap) {
        return number(o -> o.setFlour(flour, strength, cost, cap));
    }

    int mixCost(int low, int high, boolean isBottom) {
        return number(o -> o.mixCost(low, high, isBottom));
    }

    int mixShare(int low, int high, int flour, boolean isBottom) {
        return number(o -> o.mixShare(low, high, flour, isBottom));
    }

    int note(int recipe, int wanted) {
        return number(o -> o.note(recipe, wanted));
    }

    int bestNumber(int recipe, int over, int under) {
        return number(o -> o.bestNumber(recipe, over, under));
    }

    int loss(int recipe, int number, int over, int under) {
        return number(o -> o.loss(recipe, number, over, under));
    }

    int addShop(int x, int y, int opening, int closing, int stay) {
        return number(o -> o.addShop(x, y, opening, closing, stay));
    }

    int comesBack(int begin) {
        return number(o -> o.comesBack(begin));
    }

    int shopOf(int begin, int index) {
        return number(o -> o.shopOf(begin, index));
    }

    int wayBack(int begin, int way) {
        return number(o -> o.wayBack(begin, way));
    }

    int cleaning(int set) {
        return number(o -> o.cleaning(set));
    }

    int rowAt(int set, int index) {
        return number(o -> o.rowAt(set, index));
    }

    int book(int what) {
        return number(o -> o.book(what));
    }

    int type(long bytes) {
        return number(o -> o.type(bytes));
    }

    int fault() {
        return number(o -> o.fault());
    }

    int undo() {
        return number(o -> o.undo());
    }

    int actCount() {
        return number(o -> o.actCount());
    }

    double meanAge() {
        return (Double) passOn(o -> o.meanAge());
    }

    float thrownShare() {
        return (Float) passOn(o -> o.thrownShare());
    }

    long checksum() {
        return (Long) passOn(o -> o.checksum());
    }

    int errors() {
        return number(o -> o.errors());
    }
}
