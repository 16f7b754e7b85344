/** The edges that the document names in "Terms", section 3, and in the promises 10 to 17. */
public final class DoughEdgesTest {
    private static final Due due = new Due();
    private static final int RISING = OvenRound.RISING, WAITING = OvenRound.WAITING, BAKING = OvenRound.BAKING,
            BAKED = OvenRound.BAKED, THROWN = OvenRound.THROWN, NONE = OvenRound.NONE;

    public static void main(String[] args) {
        due.runAll(DoughEdgesTest.class);
    }

    private static void tells(Bakery b, int dough, int... want) {
        for (int what = 0; what < want.length; what++) {
            int asked = what;
            due.is("doughAt(" + dough + ", " + what + ")", want[what], () -> b.doughAt(dough, asked));
        }
    }

    /** One part of each good but crumbs, 70 grams a piece, and so many grams of each in the store. */
    private static Bakery withSevenGoods(int... grams) {
        Bakery b = new Bakery();
        b.addRecipe(70, 1, 200, 100, 0);
        for (int good = 0; good <= 6; good++) {
            b.setPart(0, good, 1);
            if (grams[good] > 0) {
                b.receive(good, grams[good]);
            }
        }
        return b;
    }

    /** The constants: "RISING = 0, WAITING = 1, BAKING = 2, BAKED = 3, THROWN = 4", and "NONE = -1". */
    private static void namesStatesByNumbers() {
        for (int state = 0; state <= 4; state++) {
            int dough = state;
            due.is("state " + state, state, Made.withEachState(), b -> b.doughAt(dough, 3));
        }
        due.is("the states", "0 1 2 3 4 -1", () -> RISING + " " + WAITING + " " + BAKING + " " + BAKED + " " + THROWN
                + " " + NONE);
    }

    /** Terms 3: "There are at most 20 doughs, numbered from 0 as they are made"; promise 10: "if there were 20". */
    private static void mixesTwenty() {
        Bakery b = Made.withRecipes(1);
        for (int number = 0; number < 20; number++) {
            int want = number;
            due.is("dough " + number, want, () -> b.mix(0, 1));
        }
        due.refuses(Due.STATE, "the dough 20", b, x -> x.mix(0, 1));
    }

    /** Promise 10: "if there were 20 doughs": those that are thrown away or baked count. */
    private static void countsDoughsThatAreGone() {
        Bakery b = Made.hot(20 - 1);
        b.setDecks(4);
        b.bake(0);
        b.throwAway(18);
        b.pass(10);
        due.is("the dough 19", 19, () -> b.mix(0, 1));
        b.throwAway(19);
        due.refuses(Due.STATE, "the dough 20", b, x -> x.mix(0, 1));
        b.undo();
        b.undo();
        due.is("the dough 19 again behind undo", 19, () -> b.mix(0, 2));
    }

    /** Promise 10, recipe: "number of a recipe". */
    private static void mixesARecipe() {
        due.edge("mix(recipe, 1) of one", () -> Made.withRecipes(1), (b, recipe) -> b.mix(recipe, 1)).takes(0, 0)
                .refusesOutside(Due.INDEX, 0, 0);
        due.edge("mix(recipe, 1) of six", () -> Made.withRecipes(6), (b, recipe) -> b.mix(recipe, 1)).takes(5, 0)
                .refusesOutside(Due.INDEX, 0, 5);
    }

    /** Promise 10, pieces: "1 to 40". */
    private static void mixesPieces() {
        due.edge("mix(0, pieces)", () -> Made.withRecipes(1), (b, pieces) -> b.mix(0, pieces)).takes(1, 0)
                .takes(40, 0).refuses(Due.ARGUMENT, -1).refusesOutside(Due.ARGUMENT, 1, 40);
    }

    /** Promise 10: "IllegalStateException if .. the recipe has no parts", none yet and none any more. */
    private static void refusesToMixWithoutParts() {
        Bakery b = Made.withAllergens(0);
        b.receive(0, 1000);
        due.refuses(Due.STATE, "no parts yet", b, x -> x.mix(0, 1));
        b.setPart(0, 0, 1);
        due.is("one part", 0, () -> b.mix(0, 1));
        b.setPart(0, 0, 0);
        due.refuses(Due.STATE, "no parts any more", b, x -> x.mix(0, 1));
    }

    /** Promise 10: "the store has too little of a good": just enough of each leaves nothing. */
    private static void mixesTheLastGrams() {
        Bakery b = withSevenGoods(20, 20, 20, 20, 20, 20, 20);
        due.is("mix of all", 0, () -> b.mix(0, 2));
        for (int good = 0; good <= 7; good++) {
            int asked = good;
            due.is("store " + good, 0, () -> b.store(asked));
        }
        tells(b, 0, 0, 2, 0, RISING, 140, NONE, NONE);
        due.is("book 4", 140, () -> b.book(4));
    }

    /** Promise 10: "the store has too little of a good": a gram less of any one, or all of it. */
    private static void refusesAGramTooLittle() {
        for (int good = 0; good <= 6; good++) {
            for (int less : new int[] {1, 20}) {
                int[] grams = {20, 20, 20, 20, 20, 20, 20};
                grams[good] -= less;
                due.refuses(Due.STATE, less + " less of " + good, withSevenGoods(grams), b -> b.mix(0, 2));
                due.is("one piece with " + less + " less of " + good, less == 1 ? 0 : Due.thrown(Due.STATE),
                        withSevenGoods(grams), b -> b.mix(0, 1));
            }
        }
    }

    /** Promise 10: "too little of a good": of crumbs too, which come by crumble() alone. */
    private static void mixesTheLastCrumbs() {
        Bakery b = Made.baked(3);
        b.addRecipe(50, 1, 200, 100, 0);
        b.setPart(2, 7, 1);
        due.refuses(Due.STATE, "without crumbs", b, x -> x.mix(2, 1));
        b.endDay();
        b.crumble(0);
        due.refuses(Due.STATE, "200 grams of 150", b, x -> x.mix(2, 4));
        due.is("150 grams of 150", 1, () -> b.mix(2, 3));
        due.is("store(7)", 0, () -> b.store(7));
    }

    /** Promise 10, with Terms 2: a good whose amount is rounded down to 0 may be missing. */
    private static void mixesWithoutGoodsOfNoAmount() {
        Bakery b = Made.withAllergens(0);
        b.setPart(0, 1, 1);
        b.setPart(0, 2, 9999);
        b.receive(2, 50);
        due.is("mix of 50 grams", 0, () -> b.mix(0, 1));
        due.is("store(2)", 0, () -> b.store(2));
    }

    /** Promise 10, with Terms 13: the recipe is ahead of the pieces, the pieces ahead of all states. */
    private static void namesMixingFaultsInTheirOrder() {
        due.refuses(Due.INDEX, "mix(1, 0)", Made.withRecipes(1), b -> b.mix(1, 0));
        due.refuses(Due.INDEX, "mix(-1, 41)", Made.withRecipes(1), b -> b.mix(-1, 41));
        due.refuses(Due.INDEX, "mix(1, 1) of 20", Made.withDoughs(20), b -> b.mix(1, 1));
        due.refuses(Due.ARGUMENT, "mix(0, 41) of 20", Made.withDoughs(20), b -> b.mix(0, 41));
        due.refuses(Due.ARGUMENT, "mix(0, 0) without parts", Made.withAllergens(0), b -> b.mix(0, 0));
        due.refuses(Due.ARGUMENT, "mix(0, 41) of no goods", withSevenGoods(0, 0, 0, 0, 0, 0, 0), b -> b.mix(0, 41));
    }

    /** Terms 3: "It is made RISING, with 0 points", at a later tick as well. */
    private static void makesDoughsWithoutPoints() {
        Bakery b = Made.withDoughs(1);
        b.pass(7);
        b.mix(0, 3);
        tells(b, 1, 0, 3, 0, RISING, 150, NONE, NONE);
        tells(b, 0, 0, 1, 14, RISING, 50, NONE, NONE);
    }

    /** Terms 3: "scaled to its pieces times the grams of a piece": the most and the least of them. */
    private static void scalesToItsPieces() {
        Bakery b = new Bakery();
        b.addRecipe(2000, 1, 200, 100, 0);
        b.setPart(0, 0, 9999);
        b.setPart(0, 6, 1);
        b.receive(0, 200000);
        b.receive(6, 10);
        due.is("the most", 0, () -> b.mix(0, 40));
        due.is("store(0)", 200000 - 79992, () -> b.store(0));
        due.is("store(6)", 2, () -> b.store(6));
        tells(b, 0, 0, 40, 0, RISING, 80000);
    }

    /** Terms 3: a dough keeps its grams, however its recipe is set later. */
    private static void keepsItsGrams() {
        Bakery b = Made.withDoughs(1);
        b.setPart(0, 0, 0);
        b.setPart(0, 4, 9);
        tells(b, 0, 0, 1, 0, RISING, 50);
        due.is("throwAway", 50, () -> b.throwAway(0));
    }

    /** Terms 3: "The warmth is 0 to 5, 2 at first"; promise 11, warmth: "0 to 5". */
    private static void setsWarmths() {
        due.edge("setWarmth(warmth)", Bakery::new, (b, warmth) -> b.setWarmth(warmth)).takes(0, 2).takes(5, 2)
                .refusesOutside(Due.ARGUMENT, 0, 5);
    }

    /** Promise 11: "Returns the warmth before", also if it is the same one. */
    private static void tellsTheWarmthBefore() {
        Bakery b = new Bakery();
        due.is("at first", 2, () -> b.setWarmth(5));
        due.is("the same", 5, () -> b.setWarmth(5));
        due.is("none", 5, () -> b.setWarmth(0));
        due.is("behind none", 0, () -> b.setWarmth(1));
    }

    /** Terms 3: "0, 1, 2, 4, 6, 3 for the warmths 0 to 5", in one tick and in the most of a call. */
    private static void risesByWarmth() {
        int[] gains = {0, 1, 2, 4, 6, 3};
        for (int warmth = 0; warmth <= 5; warmth++) {
            for (int ticks : new int[] {1, 2, 200}) {
                Bakery b = Made.withDoughs(1);
                b.setWarmth(warmth);
                b.pass(ticks);
                tells(b, 0, 0, 1, gains[warmth] * ticks, RISING);
            }
        }
        Bakery b = Made.withDoughs(1);
        b.pass(1);
        tells(b, 0, 0, 1, 2);
    }

    /** Terms 3: "a RISING dough gets as many points": no other one does. */
    private static void letsRisingDoughsRiseAlone() {
        Bakery b = Made.withEachState();
        b.setWarmth(4);
        b.pass(20);
        int[] points = {122, 2, 2, 2, 2};
        for (int dough = 0; dough <= 4; dough++) {
            tells(b, dough, 0, dough + 1, points[dough]);
        }
    }

    /** Terms 3: points go on above the bounds and have no end. */
    private static void risesAboveAllBounds() {
        Bakery b = Made.withDoughs(1);
        b.setWarmth(4);
        Made.passTo(b, 80000);
        tells(b, 0, 0, 1, 480000, RISING);
    }

    /** Promise 12, ticks: "1 to 200". */
    private static void passesTicks() {
        due.edge("pass(ticks)", Bakery::new, (b, ticks) -> b.pass(ticks)).takes(1, 1).takes(200, 200)
                .refuses(Due.ARGUMENT, -1).refusesOutside(Due.ARGUMENT, 1, 200);
    }

    private static Bakery at(int tick) {
        Bakery b = new Bakery();
        Made.passTo(b, tick);
        return b;
    }

    /** Promise 12: "IllegalStateException if it would be above 100000": the last tick allowed. */
    private static void reachesTheLastTick() {
        due.is("99800 and 200", 100000, at(99800), b -> b.pass(200));
        due.is("99999 and 1", 100000, at(99999), b -> b.pass(1));
        due.is("99998 and 1", 99999, at(99998), b -> b.pass(1));
    }

    /** Promise 12: "IllegalStateException if it would be above 100000": the first tick refused. */
    private static void refusesTheFirstTickTooMuch() {
        due.refuses(Due.STATE, "100000 and 1", at(100000), b -> b.pass(1));
        due.refuses(Due.STATE, "100000 and 200", at(100000), b -> b.pass(200));
        due.refuses(Due.STATE, "99999 and 2", at(99999), b -> b.pass(2));
        due.refuses(Due.STATE, "99801 and 200", at(99801), b -> b.pass(200));
    }

    /** Promise 12, with Terms 13: ticks out of range are ahead of the last tick. */
    private static void namesWrongTicksAheadOfTheLastOne() {
        due.refuses(Due.ARGUMENT, "0 ticks", at(100000), b -> b.pass(0));
        due.refuses(Due.ARGUMENT, "201 ticks", at(100000), b -> b.pass(201));
        due.refuses(Due.ARGUMENT, "the most ticks", at(100000), b -> b.pass(Integer.MAX_VALUE));
    }

    /** Terms 3: "Time passes in ticks, numbered from 0"; promise 13: "Returns its number". */
    private static void tellsTheTick() {
        due.is("at first", 0, new Bakery(), b -> b.now());
        due.is("behind one", 1, at(1), b -> b.now());
        due.is("the last one", 100000, at(100000), b -> b.now());
    }

    /** Promise 14, dough: "number of a dough"; nothing there yet, the last one and the next. */
    private static void shapesADough() {
        due.refuses(Due.INDEX, "shape(0) without doughs", Made.withRecipes(1), b -> b.shape(0));
        due.edge("shape(dough) of two", () -> Made.hot(2), (b, dough) -> b.shape(dough)).takes(0, 2).takes(1, 2)
                .refusesOutside(Due.INDEX, 0, 1);
        due.edge("shape(dough) of 20", () -> Made.hot(20), (b, dough) -> b.shape(dough)).takes(19, 2)
                .refusesOutside(Due.INDEX, 0, 19);
    }

    /** Terms 3: "within the bounds of its recipe (the bounds count)": the points just within them. */
    private static void shapesAtTheBounds() {
        due.is("just the low bound", 5, Made.withPoints(5, 5, 9, 20), b -> b.shape(0));
        due.is("just the high bound", 9, Made.withPoints(9, 5, 9, 20), b -> b.shape(0));
        due.is("the one point between equal bounds", 7, Made.withPoints(7, 7, 7, 20), b -> b.shape(0));
        due.is("the least bounds", 1, Made.withPoints(1, 1, 1, 20), b -> b.shape(0));
        due.is("the greatest bounds", 200, Made.withPoints(200, 200, 200, 200), b -> b.shape(0));
    }

    /** Terms 3: "within the bounds of its recipe (the bounds count)": the points just outside. */
    private static void refusesToShapeOutsideTheBounds() {
        due.refuses(Due.STATE, "below the low bound", Made.withPoints(4, 5, 9, 20), b -> b.shape(0));
        due.refuses(Due.STATE, "above the high bound", Made.withPoints(10, 5, 9, 20), b -> b.shape(0));
        due.refuses(Due.STATE, "no points", Made.withPoints(0, 1, 200, 20), b -> b.shape(0));
        due.refuses(Due.STATE, "201 points", Made.withPoints(201, 1, 200, 201), b -> b.shape(0));
    }

    /** Promise 14: "or its points are not within the bounds of its recipe", a tick too early and a tick too late. */
    private static void refusesToShapeTooEarlyAndTooLate() {
        Bakery b = Due.withRecipe(50, 6, 9, 100);
        b.mix(0, 1);
        b.pass(2);
        due.refuses(Due.STATE, "4 points", b, x -> x.shape(0));
        b.pass(1);
        due.is("6 points", 6, b.again(), x -> x.shape(0));
        b.pass(1);
        due.is("8 points", 8, b.again(), x -> x.shape(0));
        b.pass(1);
        due.refuses(Due.STATE, "10 points", b, x -> x.shape(0));
    }

    /** Promise 14: "IllegalStateException if it is not RISING". */
    private static void shapesRisingDoughsAlone() {
        due.is("a RISING one", 2, Made.withEachState(), b -> b.shape(0));
        for (int state = 1; state <= 4; state++) {
            int dough = state;
            due.refuses(Due.STATE, "a dough of the state " + state, Made.withEachState(), b -> b.shape(dough));
        }
    }

    /** Terms 3: "it is WAITING from this tick on, and gets no more points". */
    private static void waitsFromThisTickOn() {
        Bakery b = Made.withDoughs(1);
        b.pass(3);
        due.is("shape", 6, () -> b.shape(0));
        tells(b, 0, 0, 1, 6, WAITING, 50, 3, NONE);
        b.pass(1);
        tells(b, 0, 0, 1, 6, WAITING, 50, 3, NONE);
    }

    /** Promise 15, dough: "number of a dough". */
    private static void tellsOfADough() {
        due.refuses(Due.INDEX, "doughAt(0, 0) without doughs", Made.withRecipes(1), b -> b.doughAt(0, 0));
        due.edge("doughAt(dough, 1) of two", () -> Made.hot(2), (b, dough) -> b.doughAt(dough, 1)).takes(0, 1)
                .takes(1, 2).refusesOutside(Due.INDEX, 0, 1);
        due.edge("doughAt(dough, 1) of 20", () -> Made.hot(20), (b, dough) -> b.doughAt(dough, 1)).takes(19, 20)
                .refusesOutside(Due.INDEX, 0, 19);
    }

    /** Promise 15: "IllegalArgumentException if what is not 0 to 6". */
    private static void tellsWhatIsAsked() {
        due.edge("doughAt(3, what)", Made::withEachState, (b, what) -> b.doughAt(3, what)).takes(0, 0).takes(6, 20)
                .refusesOutside(Due.ARGUMENT, 0, 6);
    }

    /** Promise 15, with Terms 13: no such dough is ahead of what is not 0 to 6. */
    private static void namesAWrongDoughAheadOfWhatIsAsked() {
        due.refuses(Due.INDEX, "doughAt(5, 7)", Made.withEachState(), b -> b.doughAt(5, 7));
        due.refuses(Due.INDEX, "doughAt(-1, -1)", Made.withEachState(), b -> b.doughAt(-1, -1));
    }

    /** Promise 15: "5 the tick at which it was shaped (NONE if it was not)", in each state. */
    private static void tellsWhenItWasShaped() {
        int[] want = {NONE, 30, NONE, NONE, NONE};
        for (int state = 0; state <= 4; state++) {
            int dough = state;
            due.is("shaped, state " + state, want[state], Made.withEachState(), b -> b.doughAt(dough, 5));
        }
        Bakery b = Made.hot(2);
        b.shape(0);
        b.shape(1);
        b.throwAway(1);
        b.bake(0);
        due.is("a BAKING one that was shaped", 20, () -> b.doughAt(0, 5));
        b.pass(10);
        due.is("a BAKED one that was shaped", 20, () -> b.doughAt(0, 5));
        due.is("a THROWN one that was shaped", 20, () -> b.doughAt(1, 5));
    }

    /** Promise 15: "6 the tick at which it went into the oven (NONE if it did not)", in each state. */
    private static void tellsWhenItWentIntoTheOven() {
        int[] want = {NONE, NONE, 30, 20, NONE};
        for (int state = 0; state <= 4; state++) {
            int dough = state;
            due.is("in the oven, state " + state, want[state], Made.withEachState(), b -> b.doughAt(dough, 6));
        }
    }

    /** Promise 16, dough: "number of a dough". */
    private static void throwsADoughAway() {
        due.refuses(Due.INDEX, "throwAway(0) without doughs", Made.withRecipes(1), b -> b.throwAway(0));
        due.edge("throwAway(dough) of two", () -> Made.hot(2), (b, dough) -> b.throwAway(dough)).takes(0, 50)
                .takes(1, 100).refusesOutside(Due.INDEX, 0, 1);
        due.edge("throwAway(dough) of 20", () -> Made.hot(20), (b, dough) -> b.throwAway(dough)).takes(19, 1000)
                .refusesOutside(Due.INDEX, 0, 19);
    }

    /** Promise 16: "IllegalStateException if it is neither RISING nor WAITING". */
    private static void throwsDoughsOfTheTableAway() {
        due.is("a RISING one", 50, Made.withEachState(), b -> b.throwAway(0));
        due.is("a WAITING one", 100, Made.withEachState(), b -> b.throwAway(1));
        for (int state = 2; state <= 4; state++) {
            int dough = state;
            due.refuses(Due.STATE, "a dough of the state " + state, Made.withEachState(), b -> b.throwAway(dough));
        }
    }

    /** Promise 16: a dough can be thrown away whatever its points and its wait are. */
    private static void throwsSpoiledDoughsAway() {
        due.is("without points", 50, Made.withDoughs(1), b -> b.throwAway(0));
        due.is("above the high bound", 50, Made.withPoints(10, 5, 9, 20), b -> b.throwAway(0));
        Bakery b = Made.hot(1);
        b.shape(0);
        b.pass(200);
        due.is("a wait that is over", 50, () -> b.throwAway(0));
        tells(b, 0, 0, 1, 2, THROWN, 50, 20, NONE);
    }

    /** Promise 17: "Returns 0 to 20". */
    private static void countsDoughs() {
        for (int number : new int[] {0, 1, 19, 20}) {
            due.is("doughCount of " + number, number, Made.withDoughs(number), b -> b.doughCount());
        }
        Bakery b = Made.withDoughs(20);
        due.is("one more", Due.thrown(Due.STATE), () -> b.mix(0, 1));
        b.throwAway(0);
        due.is("doughCount behind it", 20, () -> b.doughCount());
    }
}
