/** The edges that the document names in "Terms", section 4, and in the promises 18 to 21. */
public final class OvenEdgesTest {
    private static final Due due = new Due();

    public static void main(String[] args) {
        due.runAll(OvenEdgesTest.class);
    }

    private static void bakes(String what, int want, Bakery b) {
        due.is(what, want, b, x -> x.bake(0));
    }

    private static void refuses(String what, Bakery b) {
        due.refuses(Due.STATE, what, b, x -> x.bake(0));
    }

    /** Promise 18, heat: "20 to 320". */
    private static void setsHeats() {
        due.edge("setHeat(heat)", Bakery::new, (b, heat) -> b.setHeat(heat)).takes(20, 20).takes(320, 20)
                .refuses(Due.ARGUMENT, 0).refusesOutside(Due.ARGUMENT, 20, 320);
    }

    /** Promise 18: "Returns the heat of the oven now", not the set one. */
    private static void tellsTheHeatNow() {
        Bakery b = new Bakery();
        due.is("at first", 20, () -> b.setHeat(320));
        due.is("set again in the same tick", 20, () -> b.setHeat(200));
        b.pass(1);
        due.is("behind a tick", 25, () -> b.setHeat(20));
        due.is("heat", 25, () -> b.heat());
    }

    /** Terms 4: "a heat, 20 at first, and a set heat, 20 at first". */
    private static void isColdAtFirst() {
        due.is("heat", 20, new Bakery(), b -> b.heat());
        Bakery b = new Bakery();
        b.pass(200);
        due.is("heat behind 200 ticks", 20, () -> b.heat());
    }

    private static Bakery heated(int from, int to, int ticks) {
        Bakery b = new Bakery();
        b.setHeat(from);
        b.pass(100);
        b.setHeat(to);
        if (ticks > 0) {
            b.pass(ticks);
        }
        return b;
    }

    private static void heats(int from, int to, int ticks, int want) {
        due.is(from + " to " + to + " in " + ticks, want, heated(from, to, ticks), b -> b.heat());
    }

    /** Terms 4: "towards the set heat by 5, or by less to just reach it", upwards. */
    private static void getsHotter() {
        heats(100, 101, 1, 101);
        heats(100, 104, 1, 104);
        heats(100, 105, 1, 105);
        heats(100, 106, 1, 105);
        heats(100, 106, 2, 106);
        heats(20, 320, 59, 315);
        heats(20, 320, 60, 320);
        heats(20, 319, 60, 319);
        heats(20, 320, 200, 320);
    }

    /** Terms 4: "towards the set heat by 5, or by less to just reach it", downwards. */
    private static void getsColder() {
        heats(106, 105, 1, 105);
        heats(106, 102, 1, 102);
        heats(106, 101, 1, 101);
        heats(106, 100, 1, 101);
        heats(106, 100, 2, 100);
        heats(320, 20, 59, 25);
        heats(320, 20, 60, 20);
        heats(319, 20, 60, 20);
        heats(320, 20, 200, 20);
    }

    /** Terms 4: a heat that is the set one stays; no heat is different ahead of the next tick. */
    private static void keepsTheHeat() {
        heats(100, 100, 1, 100);
        heats(100, 100, 200, 100);
        heats(100, 320, 0, 100);
        heats(100, 20, 0, 100);
    }

    /** Promise 19: "Returns the heat", the greatest and the least one. */
    private static void tellsTheHeat() {
        due.is("the greatest", 320, heated(320, 320, 1), b -> b.heat());
        due.is("the least", 20, heated(320, 20, 60), b -> b.heat());
    }

    /** Terms 4: "The oven has 2 decks at first (1 to 4)"; promise 20, decks: "1 to 4". */
    private static void setsDecks() {
        due.edge("setDecks(decks)", Bakery::new, (b, decks) -> b.setDecks(decks)).takes(1, 2).takes(4, 2)
                .refuses(Due.ARGUMENT, -1).refusesOutside(Due.ARGUMENT, 1, 4);
    }

    /** Promise 20: "Returns the number before", also if it is the same one. */
    private static void tellsTheDecksBefore() {
        Bakery b = new Bakery();
        due.is("at first", 2, () -> b.setDecks(4));
        due.is("the same", 4, () -> b.setDecks(4));
        due.is("the least", 4, () -> b.setDecks(1));
        due.is("behind it", 1, () -> b.setDecks(2));
    }

    /** Promise 21, dough: "number of a dough"; nothing there yet, the last one and the next. */
    private static void bakesADough() {
        due.refuses(Due.INDEX, "bake(0) without doughs", Made.withRecipes(1), b -> b.bake(0));
        due.edge("bake(dough) of two", () -> Made.hot(2), (b, dough) -> b.bake(dough)).takes(0, 30).takes(1, 30)
                .refusesOutside(Due.INDEX, 0, 1);
        due.edge("bake(dough) of 20", () -> Made.hot(20), (b, dough) -> b.bake(dough)).takes(19, 30)
                .refusesOutside(Due.INDEX, 0, 19);
    }

    /** Promise 21, with Terms 13: no such dough is ahead of what the oven cannot do. */
    private static void namesAWrongDoughFirst() {
        Bakery b = Made.hot(3);
        b.bake(0);
        b.bake(1);
        due.refuses(Due.INDEX, "no deck is left", b, x -> x.bake(3));
        b.pass(1);
        due.refuses(Due.INDEX, "no round begins", b, x -> x.bake(-1));
    }

    private static Bakery hotAt(int tick) {
        Bakery b = Made.hot(1);
        Made.passTo(b, tick);
        return b;
    }

    /** Terms 4: "A round begins at each tick that can be divided by 10, and ends 10 ticks later". */
    private static void bakesAtEachTenthTick() {
        bakes("at 20", 30, hotAt(20));
        bakes("at 30", 40, hotAt(30));
        bakes("at 100", 110, hotAt(100));
        bakes("at 99990", 100000, hotAt(99990));
        bakes("at the last tick", 100010, hotAt(100000));
    }

    /** Terms 4: "A round begins at each tick that can be divided by 10": no other one. */
    private static void refusesToBakeBetweenRounds() {
        for (int tick = 21; tick <= 29; tick++) {
            refuses("at " + tick, hotAt(tick));
        }
        refuses("at 99999", hotAt(99999));
    }

    /** Terms 4: "(0 as well)": a round begins there, but no dough has points and the oven is cold. */
    private static void bakesNothingAtTheTickZero() {
        refuses("at 0", Made.withDoughs(1));
    }

    private static Bakery waiting(int wait, int ticks) {
        Bakery b = Made.hot(1);
        b.setWait(0, wait);
        Made.passTo(b, 200 - ticks);
        b.shape(0);
        Made.passTo(b, 200);
        return b;
    }

    /** Terms 4: "the tick at which it was shaped is at most its recipe's wait ago": the last tick allowed. */
    private static void bakesAsTheWaitEnds() {
        bakes("wait 0 in the same tick", 210, waiting(0, 0));
        bakes("wait 1 a tick later", 210, waiting(1, 1));
        bakes("wait 20", 210, waiting(20, 20));
        bakes("wait 99", 210, waiting(99, 99));
        bakes("wait 99 in the same tick", 210, waiting(99, 0));
    }

    /** Terms 4: "the tick at which it was shaped is at most its recipe's wait ago": the first tick refused. */
    private static void refusesToBakeBehindTheWait() {
        refuses("wait 0", waiting(0, 1));
        refuses("wait 20", waiting(20, 21));
        refuses("wait 99", waiting(99, 100));
    }

    /** Terms 4: the wait is that of its recipe now, not as it was shaped. */
    private static void looksAtTheWaitOfNow() {
        Bakery longer = waiting(20, 21);
        longer.setWait(0, 21);
        bakes("a wait that became longer", 210, longer);
        Bakery shorter = waiting(20, 20);
        shorter.setWait(0, 19);
        refuses("a wait that became shorter", shorter);
    }

    private static Bakery hotWithPoints(int points, int low, int high) {
        Bakery b = Due.withRecipe(50, low, high, 100);
        b.setHeat(100);
        Made.passTo(b, 300 - points);
        b.mix(0, 1);
        b.setWarmth(1);
        Made.passTo(b, 300);
        return b;
    }

    /** Terms 4: "or RISING with points within the bounds": just at them. */
    private static void bakesRisingDoughsAtTheBounds() {
        bakes("just the low bound", 310, hotWithPoints(5, 5, 9));
        bakes("just the high bound", 310, hotWithPoints(9, 5, 9));
        bakes("equal bounds", 310, hotWithPoints(7, 7, 7));
        bakes("the least bounds", 310, hotWithPoints(1, 1, 1));
        bakes("the greatest bounds", 310, hotWithPoints(200, 200, 200));
    }

    /** Terms 4: "or RISING with points within the bounds": just outside. */
    private static void refusesRisingDoughsOutsideTheBounds() {
        refuses("below the low bound", hotWithPoints(4, 5, 9));
        refuses("above the high bound", hotWithPoints(10, 5, 9));
        refuses("no points", hotWithPoints(0, 1, 200));
        refuses("201 points", hotWithPoints(201, 1, 200));
    }

    /** Terms 4: the wait is nothing to a RISING dough. */
    private static void bakesRisingDoughsWithoutWait() {
        Bakery b = hotWithPoints(150, 1, 200);
        b.setWait(0, 0);
        bakes("RISING for 150 ticks with the wait 0", 310, b);
    }

    /** Terms 4: a dough goes in "if it is WAITING .. or RISING"; promise 21: "if it cannot go into the oven". */
    private static void bakesDoughsOfTheTableAlone() {
        for (int state = 0; state <= 1; state++) {
            int dough = state;
            due.is("a dough of the state " + state, 40, Made.withEachState(), b -> b.bake(dough));
        }
        for (int state = 2; state <= 4; state++) {
            int dough = state;
            due.refuses(Due.STATE, "a dough of the state " + state, Made.withEachState(), b -> b.bake(dough));
        }
    }

    /** Terms 4: "fewer doughs than there are decks went into the oven at this tick", for 1 to 4 decks. */
    private static void bakesOneDoughOnEachDeck() {
        for (int decks = 1; decks <= 4; decks++) {
            Bakery b = Made.hot(6);
            b.setDecks(decks);
            for (int dough = 1; dough <= decks; dough++) {
                int asked = dough;
                due.is("dough " + dough + " on " + decks, 30, () -> b.bake(asked));
            }
            refuses("one more than " + decks, b);
        }
    }

    /** Terms 4: "went into the oven at this tick": those of the round before do not count. */
    private static void countsDoughsOfThisTickAlone() {
        Bakery b = Made.hot(5);
        b.bake(1);
        b.bake(2);
        b.pass(10);
        b.bake(3);
        bakes("the second one of the next round", 40, b);
        due.refuses(Due.STATE, "the third one of the next round", b, x -> x.bake(4));
    }

    /** Terms 4: "than there are decks" now: more or fewer decks in the same tick. */
    private static void looksAtTheDecksOfNow() {
        Bakery more = Made.hot(4);
        more.bake(1);
        more.bake(2);
        more.setDecks(3);
        bakes("on a third deck", 30, more);
        Bakery fewer = Made.hot(4);
        fewer.bake(1);
        fewer.setDecks(1);
        refuses("on the one deck left, which is taken", fewer);
        fewer.setDecks(2);
        bakes("on two decks again", 30, fewer);
    }

    /** Terms 4: "went into the oven at this tick": what is undone did not. */
    private static void takesADoughBackByUndo() {
        Bakery b = Made.hot(4);
        b.bake(1);
        b.bake(2);
        b.undo();
        bakes("on the deck of the undone one", 30, b);
    }

    private static Bakery withHeats(int oven, int recipe) {
        Bakery b = Due.withRecipe(50, 1, 200, recipe);
        b.setHeat(oven);
        b.pass(99);
        b.mix(0, 1);
        b.pass(1);
        return b;
    }

    /** Terms 4: "the heat of the oven is at least that of the recipe, and at most 40 more": just within. */
    private static void bakesAtTheHeatsThatCount() {
        bakes("just its heat", 110, withHeats(150, 150));
        bakes("a degree more", 110, withHeats(151, 150));
        bakes("39 more", 110, withHeats(189, 150));
        bakes("40 more", 110, withHeats(190, 150));
        bakes("the least heat", 110, withHeats(100, 100));
        bakes("the greatest heat", 110, withHeats(320, 300));
    }

    /** Terms 4: "the heat of the oven is at least that of the recipe, and at most 40 more": just outside. */
    private static void refusesOtherHeats() {
        refuses("a degree too cold", withHeats(149, 150));
        refuses("41 more", withHeats(191, 150));
        refuses("cold", withHeats(20, 100));
        refuses("the hottest oven for the least heat", withHeats(320, 100));
    }

    /** Terms 4: the heat is that of the oven now, not the set one. */
    private static void looksAtTheHeatOfNow() {
        Bakery set = withHeats(100, 100);
        set.setHeat(320);
        bakes("a set heat that is too great", 110, set);
        Bakery cold = withHeats(20, 100);
        cold.setHeat(100);
        refuses("a set heat that would do", cold);
    }

    /** Terms 4: "It is BAKING then, and BAKED as the round ends: its pieces are breads .. of the age 0". */
    private static void isBakedAsTheRoundEnds() {
        Bakery b = Made.hot(3);
        b.bake(2);
        due.is("BAKING at once", OvenRound.BAKING, () -> b.doughAt(2, 3));
        b.pass(9);
        due.is("BAKING a tick ahead", OvenRound.BAKING, () -> b.doughAt(2, 3));
        due.is("no breads a tick ahead", 0, () -> b.breads(0, 0));
        b.pass(1);
        due.is("BAKED", OvenRound.BAKED, () -> b.doughAt(2, 3));
        due.is("breads of the age 0", 3, () -> b.breads(0, 0));
        due.is("breads of the age 1", 0, () -> b.breads(0, 1));
    }

    /** Terms 4: "BAKED as the round ends", once, also if far more ticks pass. */
    private static void isBakedOnce() {
        Bakery b = Made.hot(3);
        b.bake(2);
        b.pass(200);
        due.is("breads behind 200 ticks", 3, () -> b.breads(0, 0));
        due.is("now", 220, () -> b.now());
        b.pass(10);
        due.is("breads behind the next round", 3, () -> b.breads(0, 0));
    }

    /** Terms 4: "its pieces are breads of its recipe", the last one of six, and all 40 pieces. */
    private static void makesBreadsOfItsRecipe() {
        Bakery b = Made.withRecipes(6);
        b.setHeat(100);
        b.mix(5, 40);
        b.pass(20);
        b.bake(0);
        b.endDay();
        b.pass(10);
        due.is("breads(5, 0)", 40, () -> b.breads(5, 0));
        due.is("breads(4, 0)", 0, () -> b.breads(4, 0));
        due.is("sell all", 0, () -> b.sell(5, 40));
    }

    /** Terms 4: "When a tick passes": as many ticks one by one are the same as in one call. */
    private static void passesTickByTick() {
        for (int ticks : new int[] {1, 9, 10, 11, 40}) {
            Bakery once = Made.withEachState();
            once.setWarmth(5);
            once.setHeat(143);
            Bakery often = once.again();
            once.pass(ticks);
            for (int tick = 0; tick < ticks; tick++) {
                often.pass(1);
            }
            due.is(ticks + " ticks", Look.atNow(once, 350), () -> Look.atNow(often, 350));
        }
    }
}
