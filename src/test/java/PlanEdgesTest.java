/** The edges that the document names in "Terms", section 5, and in the promises 22 to 24. */
public final class PlanEdgesTest {
    private static final Due due = new Due();
    private static final int NONE = OvenRound.NONE;

    public static void main(String[] args) {
        due.runAll(PlanEdgesTest.class);
    }

    private static void plans(String what, Bakery b, int inPlan, int late, int... rounds) {
        due.is(what + ": inPlan", inPlan, () -> b.inPlan());
        due.is(what + ": late", late, () -> b.late());
        for (int i = 0; i < rounds.length; i++) {
            int dough = i;
            due.is(what + ": planned " + i, rounds[i], () -> b.planned(dough));
        }
    }

    private static void given(int round, String what, Bakery b) {
        plans(what, b, 1, 0, round);
    }

    private static void givenNone(String what, Bakery b) {
        plans(what, b, 1, 1, NONE);
    }

    private static void notInPlan(String what, Bakery b) {
        plans(what, b, 0, 0, NONE);
    }

    /** A dough at the tick 0 whose points must be within the bounds. */
    private static Bakery rising(int warmth, int low, int high) {
        Bakery b = Due.withRecipe(50, low, high, 100);
        b.mix(0, 1);
        b.setWarmth(warmth);
        return b;
    }

    /** A dough that was shaped at the first tick told, seen at the second one. */
    private static Bakery waiting(int wait, int shapedAt, int tick) {
        Bakery b = Made.withPoints(2, 1, 200, shapedAt);
        b.setWait(0, wait);
        b.shape(0);
        Made.passTo(b, tick);
        return b;
    }

    /** Doughs, one of each recipe told by its bounds, at the tick 0 with the warmth 2. */
    private static Bakery risingTogether(int... bounds) {
        Bakery b = new Bakery();
        b.receive(0, 1000);
        for (int i = 0; i < bounds.length; i += 2) {
            b.addRecipe(50, bounds[i], bounds[i + 1], 100, 0);
            b.setPart(i / 2, 0, 1);
            b.mix(i / 2, 1);
        }
        return b;
    }

    /** Promise 22, dough: "number of a dough"; nothing there yet, the last one and the next. */
    private static void tellsOfADough() {
        due.refuses(Due.INDEX, "planned(0) without doughs", Made.withRecipes(1), b -> b.planned(0));
        due.edge("planned(dough) of two", () -> Made.hot(2), (b, dough) -> b.planned(dough)).takes(0, 20).takes(1, 20)
                .refusesOutside(Due.INDEX, 0, 1);
        due.edge("planned(dough) of 20", () -> Made.hot(20), (b, dough) -> b.planned(dough)).takes(18, 110)
                .takes(19, 110).refusesOutside(Due.INDEX, 0, 19);
    }

    /** Promise 22: "NONE if the plan gives it none": doughs that are not in the plan, and one that is late. */
    private static void tellsOfNoRound() {
        int[] want = {30, 30, OvenRound.NONE, OvenRound.NONE, OvenRound.NONE};
        for (int state = 0; state <= 4; state++) {
            int dough = state;
            due.is("planned in the state " + state, want[state], Made.withEachState(), b -> b.planned(dough));
        }
        due.is("points above the high bound", OvenRound.NONE, Made.withPoints(10, 5, 9, 20), b -> b.planned(0));
        Bakery late = Made.hot(3);
        for (int dough = 0; dough < 3; dough++) {
            late.shape(dough);
        }
        late.setWait(0, 9);
        due.is("the second of two decks", 20, () -> late.planned(1));
        due.is("the third dough on two decks", OvenRound.NONE, () -> late.planned(2));
        due.is("which is late", 1, () -> late.late());
    }

    /** Promises 23 and 24: without doughs there is none in the plan. */
    private static void plansNothing() {
        plans("without recipes", new Bakery(), 0, 0);
        plans("without doughs", Made.withRecipes(6), 0, 0);
    }

    /** Terms 5: "The plan is made for all doughs that are RISING or WAITING", and no others. */
    private static void plansForDoughsOfTheTable() {
        plans("each state", Made.withEachState(), 2, 0, 30, 30, NONE, NONE, NONE);
        Bakery none = Made.withEachState();
        none.throwAway(0);
        none.throwAway(1);
        plans("none of the table", none, 0, 0, NONE, NONE, NONE, NONE, NONE);
    }

    /** Terms 5: "of a WAITING one, the present tick and that at which it was shaped plus the wait": its last tick. */
    private static void plansTillTheWaitEnds() {
        given(30, "waits till 30", waiting(5, 25, 25));
        givenNone("waits till 29", waiting(4, 25, 25));
        given(40, "waits till 40, seen at 31", waiting(15, 25, 31));
        givenNone("waits till 39, seen at 31", waiting(14, 25, 31));
        given(130, "waits till 130, seen at 121", waiting(99, 31, 121));
        givenNone("waits till 129, seen at 121", waiting(99, 30, 121));
    }

    /** Terms 5: a WAITING dough whose last tick is the present one is in the plan. */
    private static void plansInTheLastTickOfTheWait() {
        given(30, "at a begin", waiting(5, 25, 30));
        given(30, "with the wait 0", waiting(0, 30, 30));
        givenNone("between two", waiting(4, 25, 29));
        givenNone("between two with the wait 0", waiting(0, 25, 25));
        given(120, "with the wait 99", waiting(99, 21, 120));
    }

    /** Terms 5: "A dough that has no such ticks (.. a wait that is over) .. is not in the plan". */
    private static void plansNothingBehindTheWait() {
        notInPlan("a tick behind it, at a begin", waiting(4, 25, 30));
        notInPlan("a tick behind it, between two", waiting(5, 25, 31));
        notInPlan("a tick behind the wait 0", waiting(0, 25, 26));
        notInPlan("a tick behind the wait 99", waiting(99, 21, 121));
        Bakery b = waiting(5, 25, 31);
        b.setWait(0, 6);
        givenNone("a wait that became longer", b);
        b.setWait(0, 15);
        given(40, "and longer", b);
    }

    /** Terms 5: the points of a WAITING dough do not matter any more, nor does the warmth. */
    private static void plansWaitingDoughsInAnyWarmth() {
        for (int warmth = 0; warmth <= 5; warmth++) {
            Bakery b = waiting(20, 25, 26);
            b.setWarmth(warmth);
            given(30, "in the warmth " + warmth, b);
        }
    }

    /** Terms 5: of a RISING one "the first tick .. at which its points are at least the low bound". */
    private static void plansFromTheLowBoundOn() {
        given(10, "20 points at 10", rising(2, 20, 200));
        given(20, "21 points at 11", rising(2, 21, 200));
        given(20, "22 points at 11", rising(2, 22, 200));
        given(20, "40 points at 20", rising(2, 40, 200));
        given(30, "41 points at 21", rising(2, 41, 200));
        given(10, "1 point at 1", rising(2, 1, 200));
    }

    /** Terms 5: of a RISING one "the last tick at which they are at most the high bound". */
    private static void plansUpToTheHighBound() {
        given(10, "20 points at 10", rising(2, 1, 20));
        given(10, "21 points: still 10", rising(2, 1, 21));
        givenNone("19 points: 9", rising(2, 1, 19));
        givenNone("18 points: 9", rising(2, 1, 18));
        givenNone("ticks 11 to 19", rising(2, 21, 39));
        given(20, "ticks 11 to 20", rising(2, 21, 40));
    }

    /** Terms 5: the first and the last tick in each warmth, with bounds that just let a tick of a round in. */
    private static void plansInEachWarmth() {
        int[] gains = {0, 1, 2, 4, 6, 3};
        for (int warmth = 1; warmth <= 5; warmth++) {
            int gain = gains[warmth];
            given(10, "just its points in the warmth " + warmth, rising(warmth, 10 * gain, 10 * gain));
            given(10, "a gain less in the warmth " + warmth, rising(warmth, 9 * gain + 1, 11 * gain - 1));
            givenNone("a tick later in the warmth " + warmth, rising(warmth, 10 * gain + 1, 11 * gain));
            givenNone("a tick earlier in the warmth " + warmth, rising(warmth, 9 * gain, 10 * gain - 1));
        }
    }

    /** Terms 5: a dough "whose first tick is behind its last one, is not in the plan". */
    private static void leavesOutDoughsThatJumpOverTheirBounds() {
        notInPlan("19 points, two by two", rising(2, 19, 19));
        notInPlan("1 point, two by two", rising(2, 1, 1));
        notInPlan("1 to 5 points, six by six", rising(4, 1, 5));
        notInPlan("55 to 59 points, six by six", rising(4, 55, 59));
        given(10, "55 to 60 points, six by six", rising(4, 55, 60));
        notInPlan("199 points, four by four", rising(3, 197, 199));
        given(10, "31 to 30 and more points, three by three", rising(5, 29, 31));
    }

    /** Terms 5: "the first tick, from the present one on": a dough whose points are within the bounds already. */
    private static void plansFromThePresentTickOn() {
        Bakery low = Made.withPoints(5, 5, 100, 20);
        low.setWarmth(1);
        given(20, "just the low bound now", low);
        Bakery above = Made.withPoints(50, 5, 100, 60);
        above.setWarmth(1);
        given(60, "far above the low bound now", above);
        Bakery below = Made.withPoints(4, 5, 100, 20);
        below.setWarmth(1);
        given(30, "a point below it now", below);
    }

    /** Terms 5: "points above the high bound" leave a dough out, those just at it do not. */
    private static void plansUpToThePresentTick() {
        Bakery high = Made.withPoints(9, 5, 9, 20);
        high.setWarmth(1);
        given(20, "just the high bound now", high);
        Bakery between = Made.withPoints(9, 5, 9, 21);
        between.setWarmth(1);
        givenNone("just the high bound now, between two", between);
        Bakery above = Made.withPoints(10, 5, 9, 20);
        above.setWarmth(1);
        notInPlan("a point above it now", above);
        Bakery farAbove = rising(4, 1, 5);
        farAbove.pass(200);
        notInPlan("far above it", farAbove);
    }

    /** Terms 5: "if the warmth gives no points, the present tick and any later one if the points of now are within". */
    private static void plansWithoutPoints() {
        given(20, "just the low bound", Made.withPoints(5, 5, 9, 20));
        given(20, "just the high bound", Made.withPoints(9, 5, 9, 20));
        given(30, "between two begins", Made.withPoints(7, 5, 9, 21));
        notInPlan("a point below the low bound", Made.withPoints(4, 5, 9, 20));
        notInPlan("a point above the high bound", Made.withPoints(10, 5, 9, 20));
        notInPlan("no points", rising(0, 1, 200));
    }

    /** Terms 5: "with the warmth of now", not that of the ticks ahead. */
    private static void plansWithTheWarmthOfNow() {
        Bakery b = rising(2, 20, 25);
        given(10, "2 points a tick", b);
        b.setWarmth(1);
        given(20, "1 point a tick", b);
        b.setWarmth(4);
        givenNone("6 points a tick", b);
        b.setWarmth(0);
        notInPlan("no points", b);
    }

    /** Terms 5: "the rounds that begin at the present tick or later". */
    private static void beginsWithThePresentTick() {
        given(20, "at 20", Made.withPoints(5, 1, 200, 20));
        for (int tick = 21; tick <= 30; tick++) {
            given(30, "at " + tick, Made.withPoints(5, 1, 200, tick));
        }
        given(10, "at 1", Made.withPoints(1, 1, 200, 1));
        given(10, "at 10", Made.withPoints(5, 1, 200, 10));
        given(20, "at 11", Made.withPoints(5, 1, 200, 11));
    }

    /** Terms 5: the furthest rounds: 200 points by one a tick, and 20 doughs on one deck. */
    private static void reachesTheFurthestRounds() {
        given(200, "200 points from 0 on", rising(1, 200, 200));
        Bakery later = Due.withRecipe(50, 200, 200, 100);
        later.setWarmth(1);
        later.pass(10);
        later.mix(0, 1);
        given(210, "200 points from 10 on", later);
        Bakery twenty = Made.hot(20);
        twenty.setDecks(1);
        twenty.pass(1);
        plans("20 on one deck", twenty, 20, 0, 30, 40, 50, 60, 70, 80, 90, 100, 110, 120, 130, 140, 150, 160, 170, 180,
                190, 200, 210, 220);
    }

    /** Terms 5: doughs without an end follow those with one, however late that is. */
    private static void plansDoughsWithoutEndBehindOthers() {
        Bakery b = Made.hot(20);
        b.setDecks(1);
        b.setWait(0, 99);
        for (int dough = 10; dough < 20; dough++) {
            b.shape(dough);
        }
        plans("10 that wait till 119, 10 without an end", b, 20, 0, 120, 130, 140, 150, 160, 170, 180, 190, 200, 210,
                20, 30, 40, 50, 60, 70, 80, 90, 100, 110);
        b.setWait(0, 89);
        plans("10 that wait till 109", b, 20, 1, 110, 120, 130, 140, 150, 160, 170, 180, 190, 200, 20, 30, 40, 50, 60,
                70, 80, 90, 100, NONE);
    }

    /** Terms 5: "at most as many as there are decks", for 1 to 4 decks. */
    private static void givesEachRoundAsManyAsDecks() {
        for (int decks = 1; decks <= 4; decks++) {
            Bakery b = Made.hot(9);
            b.setDecks(decks);
            int[] want = new int[9];
            for (int dough = 0; dough < 9; dough++) {
                want[dough] = 20 + 10 * (dough / decks);
            }
            plans(decks + " decks", b, 9, 0, want);
        }
    }

    /** Terms 5: doughs of one round alone: as many as there are decks get it, the others none. */
    private static void leavesLateDoughsWithoutRound() {
        for (int decks = 1; decks <= 4; decks++) {
            Bakery b = risingTogether(20, 20, 20, 20, 20, 20, 20, 20, 20, 20, 20, 20);
            b.setDecks(decks);
            int[] want = new int[6];
            for (int dough = 0; dough < 6; dough++) {
                want[dough] = dough < decks ? 10 : NONE;
            }
            plans(decks + " decks", b, 6, 6 - decks, want);
        }
        Bakery twenty = Due.withRecipe(50, 20, 20, 100);
        for (int dough = 0; dough < 20; dough++) {
            twenty.mix(0, 1);
        }
        plans("20 for one round", twenty, 20, 18, 10, 10, NONE);
    }

    /** Terms 5: "those with the least last ticks first": a tick less is enough. */
    private static void prefersTheLeastLastTick() {
        Bakery b = risingTogether(1, 44, 1, 42, 1, 40);
        b.setDecks(1);
        plans("last ticks 22, 21, 20", b, 3, 1, NONE, 20, 10);
        b.setDecks(2);
        plans("on two decks", b, 3, 0, 20, 10, 10);
    }

    /** Terms 5: "of equal ones the one with the lower number", though their points differ. */
    private static void prefersTheLowerNumber() {
        Bakery b = risingTogether(1, 41, 1, 40, 20, 41);
        b.setDecks(1);
        plans("last ticks 20, all three", b, 3, 1, 10, 20, NONE);
        Bakery mixed = Made.withPoints(2, 1, 42, 11);
        mixed.setDecks(1);
        mixed.setWarmth(2);
        mixed.shape(0);
        mixed.mix(0, 1);
        plans("a WAITING one till 31, a RISING one till 32", mixed, 2, 0, 20, 30);
        mixed.setWait(0, 22);
        plans("a WAITING one till 33, a RISING one till 32", mixed, 2, 0, 30, 20);
        mixed.setWait(0, 21);
        plans("both till 32", mixed, 2, 0, 20, 30);
    }

    /** Terms 5: a round goes by if no dough's first tick has come; a later dough may be given an earlier one. */
    private static void leavesRoundsEmpty() {
        plans("the ticks 50 and 30", risingTogether(100, 100, 60, 60), 2, 0, 50, 30);
        plans("first ticks 11 and 10", risingTogether(21, 200, 20, 200), 2, 0, 20, 10);
    }

    /** Terms 5: "Heat .. do not matter". */
    private static void looksAtNoHeat() {
        Bakery b = Due.withRecipe(50, 1, 200, 300);
        b.mix(0, 1);
        given(10, "a cold oven", b);
    }

    /** Terms 5: "nor how many went into the oven at the present tick", nor those BAKING at all. */
    private static void looksAtNoDoughInTheOven() {
        Bakery b = Made.hot(4);
        b.bake(0);
        b.bake(1);
        plans("two on two decks now", b, 2, 0, NONE, NONE, 20, 20);
        b.setDecks(1);
        plans("two on one deck now", b, 2, 0, NONE, NONE, 20, 30);
        b.pass(5);
        plans("while they are BAKING", b, 2, 0, NONE, NONE, 30, 40);
        b.pass(5);
        plans("as they are BAKED", b, 2, 0, NONE, NONE, 30, 40);
    }

    /** Promise 23: "with or without a round"; promise 24: "to which it gives no round". */
    private static void countsDoughsWithAndWithoutRound() {
        plans("one with, one without, one not in the plan", risingTogether(20, 20, 21, 22, 21, 21), 2, 1, 10, NONE,
                NONE);
    }

    private static Bakery lateRising(int tick) {
        Bakery b = Due.withRecipe(50, 200, 200, 100);
        Made.passTo(b, tick);
        b.setWarmth(1);
        b.mix(0, 1);
        return b;
    }

    /** Terms 5: the plan at the last ticks: the round of the tick 100000, and those that no tick reaches. */
    private static void plansAtTheLastTicks() {
        given(100000, "at 99991", Made.withPoints(5, 1, 200, 99991));
        given(100000, "at 100000", Made.withPoints(5, 1, 200, 100000));
        Bakery last = lateRising(99800);
        given(100000, "200 points at 100000", last);
        Bakery behind = lateRising(99810);
        given(100010, "200 points ten ticks behind it", behind);
    }

    /** Promises 22 to 24: the plan is made anew for each question and changes nothing. */
    private static void changesNothing() {
        Bakery asked = risingTogether(1, 44, 1, 42, 1, 40);
        plans("asked", asked, 3, 0, 20, 10, 10);
        plans("asked again", asked, 3, 0, 20, 10, 10);
        due.is("the bakery behind it", Look.at(risingTogether(1, 44, 1, 42, 1, 40), 400), () -> Look.at(asked, 400));
    }
}
