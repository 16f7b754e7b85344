import java.util.ArrayDeque;
import java.util.List;

/** The edges that the document names in "Terms", section 12, and in the promises 44 and 45. */
public final class UndoEdgesTest {
    private static final Due due = new Due();

    public static void main(String[] args) {
        due.runAll(UndoEdgesTest.class);
    }

    /** Acts that are not refused by the bakery below; each one makes a difference to it. */
    private static final List<Due.Question> ACTS = List.of(b -> b.receive(3, 7), b -> b.addRecipe(70, 1, 2, 110, 3),
            b -> b.setWait(0, 0), b -> b.setPart(0, 4, 9), b -> b.readParts(0), b -> b.mix(1, 3),
            b -> b.setWarmth(5), b -> b.pass(200), b -> b.shape(0), b -> b.setHeat(300), b -> b.setDecks(1),
            b -> b.bake(1), b -> b.throwAway(0), b -> b.endDay(), b -> b.sell(0, 3), b -> b.crumble(0),
            b -> b.setFlour(2, 1, 2, 3), b -> b.note(0, 8), b -> b.addShop(4, 4, 4, 500, 4));

    /** The doughs 0 to 4 are in each state; there are breads of the ages 0, 1 and 3, two recipes and a shop. */
    private static Bakery busy() {
        Bakery b = Made.withRecipes(2);
        b.setHeat(100);
        b.pass(19);
        for (int dough = 0; dough < 8; dough++) {
            b.mix(0, dough + 1);
        }
        b.pass(1);
        b.setWarmth(0);
        bakeOne(b, 5);
        // Sold, so that undo has to bring back a book that was not 0.
        b.sell(0, 1);
        b.endDay();
        b.endDay();
        bakeOne(b, 6);
        b.endDay();
        bakeOne(b, 3);
        b.note(0, 5);
        b.addShop(1, 2, 3, 400, 5);
        b.throwAway(4);
        b.shape(1);
        b.bake(2);
        b.receive(4, 5000);
        return b;
    }

    private static void bakeOne(Bakery b, int dough) {
        b.bake(dough);
        b.pass(10);
    }

    private static Bakery busyWithText() {
        Bakery b = busy();
        Due.type(b, "2:7");
        return b;
    }

    /** The text ahead of readParts() is empty behind it, and undo leaves it empty. */
    private static boolean emptiesTheText(Due.Question act) {
        return ACTS.indexOf(act) == 4;
    }

    /** Terms 12: "Each act that does not throw an exception is remembered". */
    private static void remembersEachAct() {
        for (Due.Question act : ACTS) {
            String name = "act " + ACTS.indexOf(act);
            Bakery b = busyWithText();
            for (int i = 0; i < 5; i++) {
                b.undo();
            }
            b.shape(1);
            b.bake(2);
            due.is(name + ": acts ahead of it", 5, () -> b.actCount());
            due.is(name + " does not throw", true, () -> act.of(b) instanceof Integer);
            due.is(name + ": acts behind it", 6, () -> b.actCount());
        }
    }

    /** Terms 12: "To undo brings back all but the text as it was before the latest act", for each act. */
    private static void undoesEachAct() {
        for (Due.Question act : ACTS) {
            String name = "act " + ACTS.indexOf(act);
            Bakery b = busyWithText();
            String before = Look.atNow(emptiesTheText(act) ? busy() : b, 350);
            act.of(b);
            due.is(name + " makes a difference", true, () -> !before.equals(Look.atNow(b, 350)));
            due.is(name + ": undo", 7, () -> b.undo());
            due.is(name + " is undone", before, () -> Look.atNow(b, 350));
        }
    }

    /** Terms 12: an act "is remembered, even if nothing is different by it". */
    private static void remembersActsWithoutDifference() {
        List<Due.Question> acts = List.of(b -> b.setWait(0, 20), b -> b.setPart(0, 0, 1), b -> b.readParts(0),
                b -> b.setWarmth(2), b -> b.setHeat(20), b -> b.setDecks(2), b -> b.endDay(), b -> b.crumble(0),
                b -> b.setFlour(1, 100, 50, 100));
        for (Due.Question act : acts) {
            String name = "act " + acts.indexOf(act) + " without a difference";
            Bakery b = Made.withRecipes(1);
            Due.type(b, "0:1");
            due.is(name + " does not throw", true, () -> act.of(b) instanceof Integer);
            due.is(name + ": actCount", 4, () -> b.actCount());
            due.is(name + ": undo", 3, () -> b.undo());
            due.is(name + ": the grams received ahead of it", 200000, () -> b.store(0));
            due.is(name + ": undo of these", 2, () -> b.undo());
            due.is(name + ": no grams", 0, () -> b.store(0));
        }
    }

    /** Terms 12: acts that throw an exception are not remembered, each with the ones that it can throw. */
    private static void forgetsRefusedActs() {
        List<Due.Question> refused = List.of(b -> b.receive(8, 1), b -> b.receive(0, 0), b -> b.receive(7, 1),
                b -> b.addRecipe(49, 1, 1, 100, 0), b -> b.setWait(9, 1), b -> b.setWait(0, 100),
                b -> b.setPart(9, 0, 1), b -> b.setPart(0, 0, -1), b -> b.mix(9, 1), b -> b.mix(0, 41), b -> b.mix(0, 40),
                b -> b.setWarmth(6), b -> b.pass(201), b -> b.shape(9), b -> b.shape(1), b -> b.setHeat(19),
                b -> b.setDecks(5), b -> b.bake(9), b -> b.bake(4), b -> b.throwAway(9), b -> b.throwAway(2),
                b -> b.sell(9, 1), b -> b.sell(0, 100), b -> b.sell(1, 1), b -> b.crumble(2), b -> b.setFlour(4, 1, 1, 1),
                b -> b.setFlour(0, 201, 1, 1), b -> b.note(2, 1), b -> b.note(0, 100), b -> b.addShop(1, 2, 4, 3, 5));
        Bakery b = busy();
        b.setPart(0, 6, 9);
        String before = Look.at(b, 350);
        for (Due.Question act : refused) {
            String name = "refused act " + refused.indexOf(act);
            due.is(name + " throws", true, () -> Due.answerOf(() -> act.of(b)) instanceof String);
            due.is(name + ": actCount", 8, () -> b.actCount());
        }
        due.is("the bakery behind all refused acts", before, () -> Look.at(b, 350));
    }

    /** Terms 12, with promise 7: readParts() that throws is not remembered, though it empties the text. */
    private static void forgetsRefusedReading() {
        Bakery b = Made.withRecipes(1);
        b.type('0');
        due.is("readParts(0)", Due.thrown(Due.ARGUMENT), () -> b.readParts(0));
        due.is("actCount behind a fault", 3, () -> b.actCount());
        due.is("readParts(1)", Due.thrown(Due.INDEX), () -> b.readParts(1));
        due.is("actCount behind no recipe", 3, () -> b.actCount());
    }

    /** Terms 12: the acts are those told; all other calls are none, undo() itself neither. */
    private static void remembersNoQuestions() {
        List<Due.Question> questions = List.of(b -> b.store(0), b -> b.amount(0, 1, 0), b -> b.recipeCount(),
                b -> b.now(), b -> b.doughAt(0, 0), b -> b.doughCount(), b -> b.heat(), b -> b.planned(0), b -> b.inPlan(),
                b -> b.late(), b -> b.breads(0, 0), b -> b.mixCost(0, 200, true), b -> b.mixShare(0, 200, 0, true),
                b -> b.bestNumber(0, 1, 1), b -> b.loss(0, 1, 1, 1), b -> b.comesBack(0), b -> b.shopOf(0, 0),
                b -> b.wayBack(0, 0), b -> b.cleaning(3), b -> b.rowAt(3, 0), b -> b.book(0), b -> b.type('0'),
                b -> b.fault(), b -> b.actCount(), b -> b.meanAge(), b -> b.thrownShare(), b -> b.checksum(),
                b -> b.errors());
        Bakery b = busy();
        b.undo();
        for (Due.Question question : questions) {
            due.is("question " + questions.indexOf(question) + " does not throw", false,
                    () -> Due.answerOf(() -> question.of(b)) instanceof String);
            due.is("question " + questions.indexOf(question) + ": actCount", 7, () -> b.actCount());
        }
        due.is("undo", 6, () -> b.undo());
    }

    private static Bakery received(int times) {
        Bakery b = new Bakery();
        for (int i = 0; i < times; i++) {
            b.receive(2, 1);
        }
        return b;
    }

    /** Promise 45: "Returns 0 to 8"; Terms 12: "just the 8 latest ones are". */
    private static void countsUpToEight() {
        int[] acts = {0, 1, 2, 7, 8, 9, 16, 17, 100};
        int[] want = {0, 1, 2, 7, 8, 8, 8, 8, 8};
        for (int i = 0; i < acts.length; i++) {
            due.is("actCount of " + acts[i], want[i], received(acts[i]), b -> b.actCount());
        }
    }

    /** Terms 12: "just the 8 latest ones are": the state ahead of the eighth one is the last to come back. */
    private static void undoesEightActs() {
        for (int acts : new int[] {8, 9, 15, 16, 17, 100}) {
            Bakery b = received(acts);
            for (int left = 7; left >= 0; left--) {
                int want = left;
                int store = acts - 8 + left;
                due.is("undo of " + acts, want, () -> b.undo());
                due.is("store(2) behind it", store, () -> b.store(2));
            }
            due.refuses(Due.STATE, "undo of the ninth of " + acts, b, x -> x.undo());
        }
    }

    /** Promise 44: "IllegalStateException if none is remembered": at first, and behind the undoing of all. */
    private static void undoesNothing() {
        due.refuses(Due.STATE, "undo at first", new Bakery(), b -> b.undo());
        Bakery asked = new Bakery();
        asked.now();
        asked.type(' ');
        due.refuses(Due.STATE, "undo behind questions", asked, b -> b.undo());
        Bakery refused = new Bakery();
        Due.answerOf(() -> refused.receive(0, 0));
        due.refuses(Due.STATE, "undo behind a refused act", refused, b -> b.undo());
        Bakery undone = received(1);
        due.is("undo of one", 0, () -> undone.undo());
        due.refuses(Due.STATE, "undo behind the undoing of one", undone, b -> b.undo());
        due.is("the next act", 1, () -> undone.receive(2, 1));
        due.is("undo of the next one", 0, () -> undone.undo());
    }

    /** Promise 44: "Returns the number of acts that are remembered then", as actCount() tells. */
    private static void tellsTheActsLeft() {
        Bakery b = received(3);
        for (int left = 2; left >= 0; left--) {
            int want = left;
            due.is("undo", want, () -> b.undo());
            due.is("actCount", want, () -> b.actCount());
        }
    }

    /** Terms 12: the latest act "is forgotten then": undo goes on with the act ahead of it, and nothing redoes it. */
    private static void forgetsWhatIsUndone() {
        Bakery b = new Bakery();
        b.receive(0, 1);
        b.receive(1, 2);
        b.receive(2, 3);
        b.undo();
        b.receive(3, 4);
        b.undo();
        b.undo();
        int[] want = {1, 0, 0, 0};
        for (int good = 0; good <= 3; good++) {
            int asked = good;
            due.is("store " + good, want[good], () -> b.store(asked));
        }
        due.is("actCount", 1, () -> b.actCount());
    }

    /** Terms 12: acts and undoing in turn, so that the oldest ones are forgotten again and again. */
    private static void remembersThroughManyTurns() {
        Bakery b = new Bakery();
        ArrayDeque<Integer> stores = new ArrayDeque<>();
        int store = 0;
        int[] turns = {3, -2, 9, -4, 5, -8, 8, -1, 1, -3, 20, -8, 7, -7, 1, 8, -5, 6, -8};
        for (int turn : turns) {
            for (int i = 0; i < Math.abs(turn); i++) {
                if (turn > 0) {
                    stores.addLast(store);
                    store += 1 + i;
                    b.receive(6, 1 + i);
                } else {
                    store = stores.removeLast();
                    b.undo();
                }
                while (stores.size() > 8) {
                    stores.removeFirst();
                }
                int wantStore = store;
                due.is("store in the turn " + turn, wantStore, () -> b.store(6));
                int wantActs = stores.size();
                due.is("acts in the turn " + turn, wantActs, () -> b.actCount());
            }
        }
    }

    /** Terms 12: what stood ahead of each of the 8 acts comes back, whichever ones they are and however many were ahead. */
    private static void bringsBackEachOfEightActs() {
        for (int first = 0; first < ACTS.size(); first++) {
            Bakery b = busy();
            ArrayDeque<String> looks = new ArrayDeque<>();
            for (int i = 0; i < ACTS.size() && looks.size() < 8; i++) {
                Due.Question act = ACTS.get((first + i) % ACTS.size());
                String look = Look.atNow(b, 350);
                if (Due.answerOf(() -> act.of(b)) instanceof Integer) {
                    looks.push(look);
                }
            }
            due.is("acts from " + first + " on", 8, () -> b.actCount());
            for (int left = 7; left >= 0; left--) {
                String name = "acts from " + first + " on, " + left + " of them left";
                due.is(name, left, () -> b.undo());
                due.is(name + ": the bakery", looks.pop(), () -> Look.atNow(b, 350));
            }
        }
    }

    /** Terms 12, with promise 41: "all .. as it was before", the books of what was sold and of what was thrown away. */
    private static void bringsBackBooks() {
        for (int ahead = 0; ahead < 8; ahead++) {
            Bakery sold = Made.baked(40);
            Bakery thrown = Made.withDoughs(16);
            for (int i = 0; i < ahead + 8; i++) {
                sold.sell(0, 1);
                thrown.throwAway(i);
            }
            for (int left = ahead + 7; left >= ahead; left--) {
                int grams = 50 * left;
                sold.undo();
                thrown.undo();
                due.is("sold " + left, grams, () -> sold.book(1));
                due.is("thrown away " + left, grams, () -> thrown.book(2));
                due.is("thrown share of " + left, (float) grams / 200000.0f, () -> thrown.thrownShare());
            }
        }
    }

    /** Terms 12: undo of pass() brings back the tick, the heat, the points, the doughs in the oven and the breads. */
    private static void undoesTime() {
        Bakery b = Made.hot(3);
        b.setWarmth(4);
        b.setHeat(320);
        b.bake(1);
        b.pass(200);
        b.undo();
        due.is("now", 20, () -> b.now());
        due.is("heat", 100, () -> b.heat());
        due.is("points", 2, () -> b.doughAt(0, 2));
        due.is("state", OvenRound.BAKING, () -> b.doughAt(1, 3));
        due.is("breads", 0, () -> b.breads(0, 0));
        due.is("a tick later", 21, () -> b.pass(1));
        due.is("heat a tick later", 105, () -> b.heat());
        due.is("points a tick later", 8, () -> b.doughAt(0, 2));
    }

    /** Terms 12: "all .. as it was before", the strength, the cost and the cap of each flour. */
    private static void undoesEachNumberOfAFlour() {
        int[][] changes = {{0, 0, 30}, {100, 99, 30}, {100, 0, 100}};
        for (int flour = 0; flour <= 3; flour++) {
            int asked = flour;
            for (int[] change : changes) {
                Bakery b = new Bakery();
                b.setFlour(flour, 100, 0, 30);
                due.is("cost before", 0, () -> b.setFlour(asked, change[0], change[1], change[2]));
                due.is("another share", false, () -> b.mixShare(100, 100, asked, false) == 3);
                due.is("undo of setFlour", 1, () -> b.undo());
                due.is("top of the share", 3, () -> b.mixShare(100, 100, asked, false));
                due.is("bottom of the share", 10, () -> b.mixShare(100, 100, asked, true));
                due.is("cost of the mix", 35, () -> b.mixCost(100, 100, false));
            }
        }
    }

    /** Terms 12: "all .. as it was before", the wait and the parts of each recipe, the last one of a full house too. */
    private static void undoesWaitsAndPartsOfSixRecipes() {
        Bakery b = Made.withRecipes(6);
        for (int at = 0; at < 48; at++) {
            b.setPart(at / 8, at % 8, 100 + at);
        }
        for (int recipe = 0; recipe < 6; recipe++) {
            b.setWait(recipe, 10 + recipe);
        }
        for (int recipe = 0; recipe < 6; recipe++) {
            int asked = recipe;
            due.is("wait before", 10 + recipe, () -> b.setWait(asked, 99));
            b.undo();
            due.is("wait behind undo of " + recipe, 10 + recipe, () -> b.setWait(asked, 10 + asked));
        }
        for (int at = 0; at < 48; at++) {
            int asked = at;
            due.is("parts before", 100 + at, () -> b.setPart(asked / 8, asked % 8, 9999));
            b.undo();
            due.is("parts behind undo of " + at, 100 + at, () -> b.setPart(asked / 8, asked % 8, 100 + asked));
        }
    }

    /** Terms 12: "all .. as it was before", what is told of each of 20 doughs. */
    private static void undoesTwentyDoughs() {
        Bakery b = Made.hot(20);
        b.shape(18);
        b.bake(0);
        b.bake(19);
        b.pass(15);
        b.setWarmth(5);
        b.pass(200);
        b.undo();
        for (int dough = 0; dough < 20; dough++) {
            boolean isBaked = dough == 0 || dough == 19;
            boolean isShaped = dough == 18;
            int[] want = {0, dough + 1, 2, isBaked ? OvenRound.BAKED : isShaped ? OvenRound.WAITING : OvenRound.RISING,
                50 * (dough + 1), isShaped ? 20 : OvenRound.NONE, isBaked ? 20 : OvenRound.NONE};
            for (int what = 0; what < want.length; what++) {
                int asked = dough;
                int askedWhat = what;
                due.is("doughAt(" + dough + ", " + what + ")", want[what], () -> b.doughAt(asked, askedWhat));
            }
        }
        due.is("now", 35, () -> b.now());
        due.is("warmth", 5, () -> b.setWarmth(0));
    }

    /** Terms 12, with 3: a dough that is undone leaves nothing to the next one of its number, "made RISING, with 0 points". */
    private static void makesADoughAnew() {
        Bakery b = Made.withRecipes(1);
        b.setHeat(100);
        b.pass(20);
        b.mix(0, 3);
        b.pass(10);
        b.shape(0);
        b.bake(0);
        b.pass(10);
        due.is("baked", 3, () -> b.breads(0, 0));
        for (int i = 0; i < 5; i++) {
            b.undo();
        }
        due.is("the dough 0 again", 0, () -> b.mix(0, 2));
        int[] want = {0, 2, 0, OvenRound.RISING, 100, OvenRound.NONE, OvenRound.NONE};
        for (int what = 0; what < want.length; what++) {
            int asked = what;
            due.is("doughAt(0, " + what + ")", want[what], () -> b.doughAt(0, asked));
        }
        due.is("breads", 0, () -> b.breads(0, 0));
        due.is("a tick later", 21, () -> b.pass(1));
        due.is("points a tick later", 2, () -> b.doughAt(0, 2));
    }

    /** Terms 12: undo behind the last of all numbers makes them free again: doughs, recipes, shops, notes. */
    private static void undoMakesRoom() {
        Bakery doughs = Made.withDoughs(20);
        doughs.undo();
        due.is("the dough 19 again", 19, () -> doughs.mix(0, 1));
        Bakery recipes = Made.withAllergens(0, 0, 0, 0, 0, 0);
        recipes.undo();
        due.is("the recipe 5 again", 5, () -> recipes.addRecipe(50, 1, 1, 100, 0));
        Bakery ticks = new Bakery();
        Made.passTo(ticks, 100000);
        ticks.undo();
        due.is("the last ticks again", 100000, () -> ticks.pass(200));
    }

    /** Terms 12: "all but the text": one typed ahead of the act, and one typed behind it. */
    private static void keepsTheText() {
        Bakery b = new Bakery();
        Due.type(b, "0:1");
        b.endDay();
        Due.type(b, ",1:");
        b.undo();
        due.is("the length", 6, () -> b.type(0));
        due.is("the fault", 6, () -> b.fault());
    }
}
