/** The edges that the document names in "Terms", section 7, and in the promises 29 to 31. */
public final class FlourEdgesTest {
    private static final Due due = new Due();

    public static void main(String[] args) {
        due.runAll(FlourEdgesTest.class);
    }

    private static int[] flour(int strength, int cost, int cap) {
        return new int[] {strength, cost, cap};
    }

    /** All caps together are a percent too little. */
    private static Bakery withoutMix() {
        return Made.withFlours(flour(1, 1, 24), flour(1, 1, 25), flour(1, 1, 25), flour(1, 1, 25));
    }

    /** The cost first, then the shares of the flours 0 to 3, as texts. */
    private static void mixes(String what, Bakery b, int low, int high, String... want) {
        due.is(what + ": cost", want[0], () -> b.mixCost(low, high, false) + "/" + b.mixCost(low, high, true));
        for (int i = 0; i <= 3; i++) {
            int flour = i;
            due.is(what + ": share of " + i, want[1 + i], () -> b.mixShare(low, high, flour, false) + "/"
                    + b.mixShare(low, high, flour, true));
        }
    }

    private static void mixesNothing(String what, Bakery b, int low, int high) {
        due.refuses(Due.ELEMENT, what, b, x -> x.mixCost(low, high, false));
        due.refuses(Due.ELEMENT, what, b, x -> x.mixCost(low, high, true));
        for (int i = 0; i <= 3; i++) {
            int flour = i;
            due.refuses(Due.ELEMENT, what, b, x -> x.mixShare(low, high, flour, flour % 2 == 0));
        }
    }

    /** Promise 29, flour: "0 to 3". */
    private static void setsEachFlour() {
        due.edge("setFlour(flour, 1, 2, 3)", Bakery::new, (b, flour) -> b.setFlour(flour, 1, 2, 3)).takes(0, 50)
                .takes(1, 50).takes(2, 50).takes(3, 50).refuses(Due.INDEX, 7).refusesOutside(Due.INDEX, 0, 3);
    }

    /** Promise 29, strength: "0 to 200". */
    private static void setsStrengths() {
        due.edge("setFlour(0, strength, 2, 3)", Bakery::new, (b, strength) -> b.setFlour(0, strength, 2, 3))
                .takes(0, 50).takes(200, 50).refusesOutside(Due.ARGUMENT, 0, 200);
    }

    /** Promise 29, cost: "0 to 999". */
    private static void setsCosts() {
        due.edge("setFlour(0, 1, cost, 3)", Bakery::new, (b, cost) -> b.setFlour(0, 1, cost, 3)).takes(0, 50)
                .takes(999, 50).refusesOutside(Due.ARGUMENT, 0, 999);
    }

    /** Promise 29, cap: "0 to 100". */
    private static void setsCaps() {
        due.edge("setFlour(0, 1, 2, cap)", Bakery::new, (b, cap) -> b.setFlour(0, 1, 2, cap)).takes(0, 50)
                .takes(100, 50).refusesOutside(Due.ARGUMENT, 0, 100);
    }

    /** Promise 29: "Returns the cost before", also if it is the same one. */
    private static void tellsTheCostBefore() {
        Bakery b = new Bakery();
        due.is("at first", 50, () -> b.setFlour(3, 1, 999, 100));
        due.is("the same", 999, () -> b.setFlour(3, 1, 999, 100));
        due.is("none", 999, () -> b.setFlour(3, 1, 0, 100));
        due.is("behind none", 0, () -> b.setFlour(3, 1, 50, 100));
        due.is("another flour", 50, () -> b.setFlour(2, 1, 50, 100));
    }

    /** Promise 29, with Terms 13: no such flour is ahead of a number out of range. */
    private static void namesAWrongFlourFirst() {
        due.refuses(Due.INDEX, "setFlour(4, 201, 0, 0)", new Bakery(), b -> b.setFlour(4, 201, 0, 0));
        due.refuses(Due.INDEX, "setFlour(-1, 0, 1000, 0)", new Bakery(), b -> b.setFlour(-1, 0, 1000, 0));
        due.refuses(Due.INDEX, "setFlour(4, 0, 0, 101)", new Bakery(), b -> b.setFlour(4, 0, 0, 101));
    }

    /** Terms 7: "a strength (0 to 200; 100 at first), a cost (0 to 999; 50 at first) and a cap (..; 100 at first)". */
    private static void beginsWithEqualFlours() {
        mixes("at first", new Bakery(), 100, 100, "50/1", "0/1", "0/1", "0/1", "1/1");
        mixesNothing("below 100", new Bakery(), 0, 99);
        mixesNothing("above 100", new Bakery(), 101, 200);
        Bakery b = new Bakery();
        for (int flour = 1; flour <= 3; flour++) {
            b.setFlour(flour, 100, 50, 0);
        }
        mixes("the flour 0 alone", b, 0, 200, "50/1", "1/1", "0/1", "0/1", "0/1");
    }

    /** Promise 30, low: "0 to 200"; "IllegalArgumentException if low or high is out of range". */
    private static void costsByLowBounds() {
        due.edge("mixCost(low, 200, false)", Bakery::new, (b, low) -> b.mixCost(low, 200, false)).takes(0, 50)
                .takes(100, 50).refuses(Due.ELEMENT, 101, 200).refusesOutside(Due.ARGUMENT, 0, 200);
        due.edge("mixCost(low, low, true)", Bakery::new, (b, low) -> b.mixCost(low, low, true)).takes(100, 1)
                .refuses(Due.ELEMENT, 0, 200).refuses(Due.ARGUMENT, -1, 201);
    }

    /** Promise 31, low: "0 to 200"; "IllegalArgumentException if low or high is out of range". */
    private static void sharesByLowBounds() {
        due.edge("mixShare(low, 200, 3, true)", Bakery::new, (b, low) -> b.mixShare(low, 200, 3, true)).takes(0, 1)
                .takes(100, 1).refuses(Due.ELEMENT, 101, 200).refusesOutside(Due.ARGUMENT, 0, 200);
        due.edge("mixShare(low, low, 3, false)", Bakery::new, (b, low) -> b.mixShare(low, low, 3, false)).takes(100, 1)
                .refuses(Due.ELEMENT, 0, 200).refuses(Due.ARGUMENT, -1, 201);
    }

    /** Promise 30, high: "low to 200". */
    private static void costsByHighBounds() {
        due.edge("mixCost(100, high, false)", Bakery::new, (b, high) -> b.mixCost(100, high, false)).takes(100, 50)
                .takes(200, 50).refuses(Due.ARGUMENT, 0).refusesOutside(Due.ARGUMENT, 100, 200);
    }

    /** Promise 31, high: "low to 200". */
    private static void sharesByHighBounds() {
        due.edge("mixShare(100, high, 3, true)", Bakery::new, (b, high) -> b.mixShare(100, high, 3, true))
                .takes(100, 1).takes(200, 1).refuses(Due.ARGUMENT, 0).refusesOutside(Due.ARGUMENT, 100, 200);
    }

    /** Promise 31, flour: "0 to 3". */
    private static void tellsOfEachFlour() {
        due.edge("mixShare(0, 200, flour, false)", Bakery::new, (b, flour) -> b.mixShare(0, 200, flour, false))
                .takes(0, 0).takes(2, 0).takes(3, 1).refusesOutside(Due.INDEX, 0, 3);
    }

    /** Promise 31, with Terms 13: the flour is ahead of the bounds, the bounds ahead of no mix. */
    private static void namesSharingFaultsInTheirOrder() {
        due.refuses(Due.INDEX, "mixShare(-1, 201, 4)", new Bakery(), b -> b.mixShare(-1, 201, 4, false));
        due.refuses(Due.INDEX, "mixShare(0, 99, -1)", new Bakery(), b -> b.mixShare(0, 99, -1, false));
        due.refuses(Due.INDEX, "mixShare(0, 200, 4) of no mix", withoutMix(), b -> b.mixShare(0, 200, 4, true));
        due.refuses(Due.ARGUMENT, "mixShare(5, 4, 0) of no mix", withoutMix(), b -> b.mixShare(5, 4, 0, true));
        due.refuses(Due.ARGUMENT, "mixShare(-1, 200, 0) of no mix", withoutMix(), b -> b.mixShare(-1, 200, 0, false));
        due.refuses(Due.ARGUMENT, "mixShare(0, 201, 3) of no mix", withoutMix(), b -> b.mixShare(0, 201, 3, true));
    }

    /** Promise 30, with Terms 13: the bounds are ahead of no mix. */
    private static void namesWrongBoundsAheadOfNoMix() {
        due.refuses(Due.ARGUMENT, "mixCost(5, 4) of no mix", withoutMix(), b -> b.mixCost(5, 4, false));
        due.refuses(Due.ARGUMENT, "mixCost(-1, 200) of no mix", withoutMix(), b -> b.mixCost(-1, 200, true));
        due.refuses(Due.ARGUMENT, "mixCost(0, 201) of no mix", withoutMix(), b -> b.mixCost(0, 201, true));
    }

    /** Promise 30: "NoSuchElementException if there is no such mix", be the bounds as wide as can be. */
    private static void costsNothingWithoutAMix() {
        due.edge("mixCost(low, 200, false) of no mix", FlourEdgesTest::withoutMix, (b, low) -> b.mixCost(low, 200, false))
                .refuses(Due.ELEMENT, 0, 1, 200);
        due.edge("mixCost(0, high, true) of no mix", FlourEdgesTest::withoutMix, (b, high) -> b.mixCost(0, high, true))
                .refuses(Due.ELEMENT, 0, 1, 200);
        Bakery b = withoutMix();
        b.setFlour(0, 1, 1, 25);
        due.is("a percent more makes a mix", 1, () -> b.mixCost(0, 200, true));
    }

    /** Promise 31: "NoSuchElementException if there is no such mix", for each flour. */
    private static void sharesNothingWithoutAMix() {
        due.edge("mixShare(0, 200, flour, false) of no mix", FlourEdgesTest::withoutMix,
                (b, flour) -> b.mixShare(0, 200, flour, false)).refuses(Due.ELEMENT, 0, 1, 2, 3);
        due.edge("mixShare(1, 1, flour, true) of no mix", FlourEdgesTest::withoutMix,
                (b, flour) -> b.mixShare(1, 1, flour, true)).refuses(Due.ELEMENT, 0, 1, 2, 3);
        Bakery b = withoutMix();
        b.setFlour(0, 1, 1, 25);
        due.is("a percent more makes a mix", 4, () -> b.mixShare(0, 200, 0, true));
    }

    /** Terms 7: "a share, from 0 to its cap, all shares together 1": caps that are just enough, and a percent less. */
    private static void fillsTheCaps() {
        mixes("25 each", Made.withFlours(flour(100, 1, 25), flour(100, 2, 25), flour(100, 3, 25), flour(100, 4, 25)),
                0, 200, "5/2", "1/4", "1/4", "1/4", "1/4");
        mixes("1, 2, 3, 94", Made.withFlours(flour(100, 9, 1), flour(100, 9, 2), flour(100, 9, 3), flour(100, 9, 94)),
                100, 100, "9/1", "1/100", "1/50", "3/100", "47/50");
        for (int less = 0; less <= 3; less++) {
            int[][] flours = {flour(100, 1, 25), flour(100, 2, 25), flour(100, 3, 25), flour(100, 4, 25)};
            flours[less][2] = 24;
            mixesNothing("24 of " + less, Made.withFlours(flours), 0, 200);
        }
        mixesNothing("no caps", Made.withFlours(flour(1, 1, 0), flour(1, 1, 0), flour(1, 1, 0), flour(1, 1, 0)), 0,
                200);
    }

    /** Terms 7: "from 0 to its cap": a cap of 100 alone, and one of 99 that needs another flour. */
    private static void takesAsMuchAsTheCap() {
        mixes("a cap of 100", Made.withFlours(flour(100, 9, 100), flour(100, 1, 100), flour(100, 9, 100),
                flour(100, 9, 100)), 0, 200, "1/1", "0/1", "1/1", "0/1", "0/1");
        mixes("a cap of 99", Made.withFlours(flour(100, 9, 100), flour(100, 1, 99), flour(100, 9, 100),
                flour(100, 9, 100)), 0, 200, "27/25", "0/1", "99/100", "0/1", "1/100");
        mixes("a cap of 1", Made.withFlours(flour(100, 9, 100), flour(100, 1, 1), flour(100, 9, 100),
                flour(100, 9, 100)), 0, 200, "223/25", "0/1", "1/100", "0/1", "99/100");
    }

    private static Bakery strong(int... strengths) {
        int[][] flours = new int[4][];
        for (int i = 0; i < 4; i++) {
            flours[i] = flour(strengths[i], 10 * i, 100);
        }
        return Made.withFlours(flours);
    }

    /** Terms 7: "whose strength is within the bounds (from the lesser to the greater one)": just at them. */
    private static void mixesAtTheBounds() {
        mixes("just the low bound", strong(80, 90, 90, 90), 90, 200, "10/1", "0/1", "1/1", "0/1", "0/1");
        mixes("just the high bound", strong(120, 110, 110, 110), 0, 110, "10/1", "0/1", "1/1", "0/1", "0/1");
        mixes("the least strength", strong(200, 0, 200, 200), 0, 0, "10/1", "0/1", "1/1", "0/1", "0/1");
        mixes("the greatest strength", strong(0, 200, 0, 0), 200, 200, "10/1", "0/1", "1/1", "0/1", "0/1");
        mixes("the bounds of both ends", strong(0, 200, 0, 0), 0, 200, "0/1", "1/1", "0/1", "0/1", "0/1");
    }

    /** Terms 7: strengths just outside of the bounds make no mix, or one with another flour. */
    private static void mixesOutsideTheBounds() {
        mixesNothing("a point too strong", strong(1, 2, 3, 4), 0, 0);
        mixesNothing("a point too weak", strong(196, 197, 198, 199), 200, 200);
        mixesNothing("all too weak", strong(0, 1, 2, 99), 100, 100);
        mixesNothing("all too strong", strong(101, 200, 150, 102), 0, 100);
        mixes("a point below the low bound", strong(89, 91, 0, 0), 90, 200, "5/1", "1/2", "1/2", "0/1", "0/1");
        mixes("a point above the high bound", strong(111, 109, 200, 200), 0, 110, "5/1", "1/2", "1/2", "0/1", "0/1");
    }

    /** Terms 7: strengths that only whole caps together reach, and a percent less of the strong one. */
    private static void reachesABoundByCaps() {
        Bakery b = Made.withFlours(flour(0, 1, 50), flour(200, 9, 50), flour(0, 1, 0), flour(0, 1, 0));
        mixes("half of each", b, 100, 100, "5/1", "1/2", "1/2", "0/1", "0/1");
        mixesNothing("more than its cap gives", b, 101, 200);
        mixesNothing("less than its cap needs", b, 0, 99);
        b.setFlour(1, 200, 9, 49);
        mixesNothing("a percent less", b, 100, 100);
    }

    /** Terms 7: "the one with the least cost": 0 if there are flours without cost, and the greatest one. */
    private static void mixesAtTheLeastCost() {
        mixes("no cost", Made.withFlours(flour(1, 0, 40), flour(1, 5, 100), flour(1, 0, 60), flour(1, 1, 100)), 0, 200,
                "0/1", "2/5", "0/1", "3/5", "0/1");
        mixes("the greatest cost", Made.withFlours(flour(1, 999, 100), flour(1, 999, 100), flour(1, 999, 100),
                flour(1, 999, 100)), 1, 1, "999/1", "0/1", "0/1", "0/1", "1/1");
        mixes("one less cost", Made.withFlours(flour(1, 999, 100), flour(1, 998, 100), flour(1, 999, 100),
                flour(1, 999, 100)), 1, 1, "998/1", "0/1", "1/1", "0/1", "0/1");
    }

    /** Terms 7: "of several the one with the least share of the flour 0". */
    private static void prefersLessOfTheFlourZero() {
        mixes("0 or 1", Made.withFlours(flour(5, 5, 100), flour(5, 5, 100), flour(5, 9, 100), flour(5, 9, 100)), 0, 200,
                "5/1", "0/1", "1/1", "0/1", "0/1");
        mixes("0 with a cap of 1", Made.withFlours(flour(5, 5, 100), flour(5, 5, 99), flour(5, 9, 100),
                flour(5, 9, 100)), 0, 200, "5/1", "1/100", "99/100", "0/1", "0/1");
    }

    /** Terms 7: "of these the one with the least share of the flour 1, and so on". */
    private static void prefersLessOfTheLowerFlours() {
        mixes("1 or 2", Made.withFlours(flour(5, 9, 100), flour(5, 5, 100), flour(5, 5, 100), flour(5, 9, 100)), 0, 200,
                "5/1", "0/1", "0/1", "1/1", "0/1");
        mixes("2 or 3", Made.withFlours(flour(5, 9, 100), flour(5, 9, 100), flour(5, 5, 100), flour(5, 5, 100)), 0, 200,
                "5/1", "0/1", "0/1", "0/1", "1/1");
        mixes("all, with caps", Made.withFlours(flour(5, 5, 40), flour(5, 5, 40), flour(5, 5, 40), flour(5, 5, 40)), 0,
                200, "5/1", "0/1", "1/5", "2/5", "2/5");
        mixes("weak and strong ones", Made.withFlours(flour(0, 5, 100), flour(200, 5, 100), flour(0, 5, 100),
                flour(200, 5, 100)), 100, 100, "5/1", "0/1", "0/1", "1/2", "1/2");
        mixes("as little of 1 as the strength needs", Made.withFlours(flour(150, 5, 100), flour(60, 5, 100),
                flour(200, 5, 50), flour(0, 5, 100)), 110, 110, "5/1", "0/1", "1/6", "1/2", "1/3");
    }

    /** Promises 30 and 31: "as a fraction in lowest terms with a bottom above 0", 0 and 1 too. */
    private static void tellsLowestTerms() {
        mixes("0 and 1", Made.withFlours(flour(0, 0, 100), flour(1, 1, 0), flour(1, 1, 0), flour(1, 1, 0)), 0, 0, "0/1",
                "1/1", "0/1", "0/1", "0/1");
        mixes("halves", Made.withFlours(flour(0, 2, 100), flour(2, 4, 100), flour(1, 999, 0), flour(1, 999, 0)), 1, 1,
                "3/1", "1/2", "1/2", "0/1", "0/1");
    }

    /** Terms 7, as exact fractions: the greatest bottoms, and costs that a division of small numbers takes for equal. */
    private static void mixesWithGreatBottoms() {
        mixes("199 strengths between", Made.withFlours(flour(200, 999, 100), flour(1, 998, 100), flour(0, 999, 0),
                flour(0, 999, 0)), 101, 101, "198702/199", "100/199", "99/199", "0/1", "0/1");
        mixes("caps of 1 and 3 percent", Made.withFlours(flour(200, 997, 100), flour(1, 991, 100), flour(199, 0, 1),
                flour(7, 0, 3)), 101, 101, fraction(997 * 9784 + 991 * 9320, 19900),
                fraction(9784, 19900), fraction(9320, 19900), "1/100", "3/100");
    }

    private static String fraction(int top, int bottom) {
        int divisor = java.math.BigInteger.valueOf(top).gcd(java.math.BigInteger.valueOf(bottom)).intValue();
        return top / divisor + "/" + bottom / divisor;
    }
}
