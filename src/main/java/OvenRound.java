import java.util.Arrays;
import java.util.NoSuchElementException;

/** A bakery; README.md tells how to use it, the document what each call must do. */
public final class OvenRound {
    public static final int NONE = -1;
    public static final int RISING = 0, WAITING = 1, BAKING = 2, BAKED = 3, THROWN = 4;

    private static final int GOODS = 8, CRUMBS = 7;
    private static final int RECIPES = 6, DOUGHS = 20, AGES = 4, FLOURS = 4, SHOPS = 7;
    private static final int NOTES = 60, NUMBERS = 100, HUNDRED = 100;
    private static final int MOST_OF_A_GOOD = 1000000, LAST_TICK = 100000;
    private static final int ROUND_TICKS = 10;

    private static final int ACTS = 8;
    private static final int PAGE = Store.SIZE + Recipes.SIZE + Doughs.SIZE + Oven.SIZE
            + Breads.SIZE + Flours.SIZE + Notes.SIZE + Cart.SIZE;

    private final Store store;
    private final Recipes recipes;
    private final Doughs doughs;
    private final Oven oven;
    private final Plan plan;
    private final Breads breads;
    private final Flours flours;
    private final Notes notes;
    private final Cart cart;
    private final Row row;
    private final PartsText text;

    /** The remembered acts: ACTS pages in a ring, each one the bakery ahead of its act. */
    private final int[] past;
    private int oldest;
    private int acts;

    public OvenRound() {
        store = new Store();
        recipes = new Recipes();
        doughs = new Doughs();
        oven = new Oven();
        plan = new Plan(recipes, doughs, oven);
        breads = new Breads();
        flours = new Flours();
        notes = new Notes();
        cart = new Cart();
        row = new Row(recipes);
        text = new PartsText();
        past = new int[ACTS * PAGE];
    }

    // ---- store and recipes

    public int receive(int good, int grams)
            throws IndexOutOfBoundsException, IllegalArgumentException, IllegalStateException {
        needGood(good);
        needArgument(good != CRUMBS && isWithin(grams, 1, 200000));
        needState(store.grams[good] + grams <= MOST_OF_A_GOOD);
        remember();
        store.grams[good] += grams;
        store.cameIn += grams;
        return store.grams[good];
    }

    public int store(int good) throws IndexOutOfBoundsException {
        needGood(good);
        return store.grams[good];
    }

    public int addRecipe(int piece, int low, int high, int heat, int allergens)
            throws IllegalArgumentException, IllegalStateException {
        needArgument(isWithin(piece, 50, 2000) && isWithin(low, 1, 200) && isWithin(high, low, 200)
                && isWithin(heat, 100, 300) && isWithin(allergens, 0, 15));
        needState(recipes.count < RECIPES);
        remember();
        int recipe = recipes.count;
        recipes.piece[recipe] = piece;
        recipes.low[recipe] = low;
        recipes.high[recipe] = high;
        recipes.heat[recipe] = heat;
        recipes.allergens[recipe] = allergens;
        recipes.count++;
        return recipe;
    }

    public int setWait(int recipe, int wait) throws IndexOutOfBoundsException, IllegalArgumentException {
        needRecipe(recipe);
        needArgument(isWithin(wait, 0, 99));
        remember();
        int before = recipes.wait[recipe];
        recipes.wait[recipe] = wait;
        return before;
    }

    public int setPart(int recipe, int good, int parts)
            throws IndexOutOfBoundsException, IllegalArgumentException {
        needRecipe(recipe);
        needGood(good);
        needArgument(isWithin(parts, 0, 9999));
        remember();
        int at = recipe * GOODS + good;
        int before = recipes.parts[at];
        recipes.parts[at] = parts;
        return before;
    }

    public int readParts(int recipe) throws IndexOutOfBoundsException, IllegalArgumentException {
        int faultPlace = text.read();
        text.length = 0;
        needRecipe(recipe);
        needArgument(faultPlace == NONE);
        remember();
        System.arraycopy(text.parts, 0, recipes.parts, recipe * GOODS, GOODS);
        return recipes.partsUpTo(recipe, GOODS - 1);
    }

    public int amount(int recipe, int grams, int good)
            throws IndexOutOfBoundsException, IllegalArgumentException, IllegalStateException {
        needRecipe(recipe);
        needGood(good);
        needArgument(isWithin(grams, 1, 100000));
        needState(recipes.hasParts(recipe));
        return recipes.scaled(recipe, grams, good);
    }

    public int recipeCount() {
        return recipes.count;
    }

    // ---- doughs and time

    public int mix(int recipe, int pieces)
            throws IndexOutOfBoundsException, IllegalArgumentException, IllegalStateException {
        needRecipe(recipe);
        needArgument(isWithin(pieces, 1, 40));
        int grams = pieces * recipes.piece[recipe];
        needState(doughs.count < DOUGHS && recipes.hasParts(recipe) && isEnoughFor(recipe, grams));
        remember();
        for (int good = 0; good < GOODS; good++) {
            store.grams[good] -= recipes.scaled(recipe, grams, good);
        }
        return doughs.add(recipe, pieces, grams);
    }

    public int setWarmth(int warmth) throws IllegalArgumentException {
        needArgument(isWithin(warmth, 0, 5));
        remember();
        int before = oven.warmth;
        oven.warmth = warmth;
        return before;
    }

    public int pass(int ticks) throws IllegalArgumentException, IllegalStateException {
        needArgument(isWithin(ticks, 1, 200));
        needState(oven.tick + ticks <= LAST_TICK);
        remember();
        oven.letPass(ticks);
        doughs.rise(ticks * oven.pointsOfATick());
        takeOutOfOven();
        return oven.tick;
    }

    public int now() {
        return oven.tick;
    }

    public int shape(int dough) throws IndexOutOfBoundsException, IllegalStateException {
        needDough(dough);
        needState(isRipe(dough));
        remember();
        doughs.state[dough] = WAITING;
        doughs.shapedAt[dough] = oven.tick;
        return doughs.points[dough];
    }

    public int doughAt(int dough, int what) throws IndexOutOfBoundsException, IllegalArgumentException {
        needDough(dough);
        needArgument(isWithin(what, 0, 6));
        switch (what) {
            case 0:
                return doughs.recipe[dough];
            case 1:
                return doughs.pieces[dough];
            case 2:
                return doughs.points[dough];
            case 3:
                return doughs.state[dough];
            case 4:
                return doughs.grams[dough];
            case 5:
                return doughs.shapedAt[dough];
            default:
                return doughs.ovenAt[dough];
        }
    }

    public int throwAway(int dough) throws IndexOutOfBoundsException, IllegalStateException {
        needDough(dough);
        needState(doughs.isOnTable(dough));
        remember();
        doughs.state[dough] = THROWN;
        store.thrown += doughs.grams[dough];
        return doughs.grams[dough];
    }

    public int doughCount() {
        return doughs.count;
    }

    // ---- oven and plan

    public int setHeat(int heat) throws IllegalArgumentException {
        needArgument(isWithin(heat, 20, 320));
        remember();
        oven.setHeat = heat;
        return oven.heat;
    }

    public int heat() {
        return oven.heat;
    }

    public int setDecks(int decks) throws IllegalArgumentException {
        needArgument(isWithin(decks, 1, 4));
        remember();
        int before = oven.decks;
        oven.decks = decks;
        return before;
    }

    public int bake(int dough) throws IndexOutOfBoundsException, IllegalStateException {
        needDough(dough);
        needState(isForOven(dough) && isOvenFor(doughs.recipe[dough]));
        remember();
        doughs.state[dough] = BAKING;
        doughs.ovenAt[dough] = oven.tick;
        return oven.tick + ROUND_TICKS;
    }

    public int planned(int dough) throws IndexOutOfBoundsException {
        needDough(dough);
        plan.make();
        return plan.round[dough];
    }

    public int inPlan() {
        plan.make();
        return plan.doughsInPlan();
    }

    public int late() {
        plan.make();
        return plan.doughsWithoutRound();
    }

    // ---- breads

    public int breads(int recipe, int age) throws IndexOutOfBoundsException, IllegalArgumentException {
        needRecipe(recipe);
        needArgument(isWithin(age, 0, AGES - 1));
        return breads.pieces[recipe * AGES + age];
    }

    public int endDay() {
        remember();
        int thrown = 0;
        for (int recipe = 0; recipe < recipes.count; recipe++) {
            int tooOld = breads.growOlder(recipe);
            thrown += tooOld;
            store.thrown += tooOld * recipes.piece[recipe];
        }
        return thrown;
    }

    public int sell(int recipe, int pieces)
            throws IndexOutOfBoundsException, IllegalArgumentException, IllegalStateException {
        needRecipe(recipe);
        needArgument(isWithin(pieces, 1, 99));
        needState(breads.from(recipe, 0) >= pieces);
        remember();
        store.sold += pieces * recipes.piece[recipe];
        return breads.takeOldest(recipe, pieces);
    }

    public int crumble(int recipe) throws IndexOutOfBoundsException {
        needRecipe(recipe);
        remember();
        int grams = breads.from(recipe, 1) * recipes.piece[recipe];
        for (int age = 1; age < AGES; age++) {
            breads.pieces[recipe * AGES + age] = 0;
        }
        store.grams[CRUMBS] += grams;
        return grams;
    }

    // ---- flours

    public int setFlour(int flour, int strength, int cost, int cap)
            throws IndexOutOfBoundsException, IllegalArgumentException {
        needIndex(isWithin(flour, 0, FLOURS - 1));
        needArgument(isWithin(strength, 0, 200) && isWithin(cost, 0, 999) && isWithin(cap, 0, HUNDRED));
        remember();
        int before = flours.cost[flour];
        flours.strength[flour] = strength;
        flours.cost[flour] = cost;
        flours.cap[flour] = cap;
        return before;
    }

    public int mixCost(int low, int high, boolean isBottom)
            throws IllegalArgumentException, NoSuchElementException {
        needArgument(isWithin(low, 0, 200) && isWithin(high, low, 200));
        needElement(flours.findMix(low, high));
        return lowestTerm(flours.costOf(flours.bestTops), flours.bestBottom, isBottom);
    }

    public int mixShare(int low, int high, int flour, boolean isBottom)
            throws IndexOutOfBoundsException, IllegalArgumentException, NoSuchElementException {
        needIndex(isWithin(flour, 0, FLOURS - 1));
        needArgument(isWithin(low, 0, 200) && isWithin(high, low, 200));
        needElement(flours.findMix(low, high));
        return lowestTerm(flours.bestTops[flour], flours.bestBottom, isBottom);
    }

    // ---- numbers

    public int note(int recipe, int wanted)
            throws IndexOutOfBoundsException, IllegalArgumentException, IllegalStateException {
        needRecipe(recipe);
        needArgument(isWithin(wanted, 0, NUMBERS - 1));
        needState(notes.count[recipe] < NOTES);
        remember();
        notes.wanted[recipe * NOTES + notes.count[recipe]] = wanted;
        notes.count[recipe]++;
        return notes.count[recipe];
    }

    public int bestNumber(int recipe, int over, int under)
            throws IndexOutOfBoundsException, IllegalArgumentException, NoSuchElementException {
        needRecipe(recipe);
        needArgument(isWithin(over, 0, 99) && isWithin(under, 0, 99));
        needElement(notes.count[recipe] > 0);
        return notes.bestFor(recipe, over, under);
    }

    public int loss(int recipe, int number, int over, int under)
            throws IndexOutOfBoundsException, IllegalArgumentException {
        needRecipe(recipe);
        needArgument(isWithin(number, 0, NUMBERS - 1) && isWithin(over, 0, 99) && isWithin(under, 0, 99));
        return notes.lossOf(recipe, number, over, under);
    }

    // ---- the cart

    public int addShop(int x, int y, int opening, int closing, int stay)
            throws IllegalArgumentException, IllegalStateException {
        needArgument(isWithin(x, 0, 20) && isWithin(y, 0, 20) && isWithin(opening, 0, 600)
                && isWithin(closing, opening, 600) && isWithin(stay, 0, 30));
        needState(cart.count < SHOPS);
        remember();
        int shop = cart.count;
        cart.x[shop] = x;
        cart.y[shop] = y;
        cart.opening[shop] = opening;
        cart.closing[shop] = closing;
        cart.stay[shop] = stay;
        cart.count++;
        return shop;
    }

    public int comesBack(int begin) throws IllegalArgumentException, NoSuchElementException {
        needArgument(isWithin(begin, 0, 600));
        needElement(cart.findWay(begin));
        return cart.bestBack;
    }

    public int shopOf(int begin, int index)
            throws IndexOutOfBoundsException, IllegalArgumentException, NoSuchElementException {
        needIndex(isWithin(index, 0, cart.count - 1));
        needArgument(isWithin(begin, 0, 600));
        needElement(cart.findWay(begin));
        return cart.bestWay[index];
    }

    public int wayBack(int begin, int way) throws IllegalArgumentException {
        needArgument(isWithin(begin, 0, 600) && cart.readWay(way));
        return cart.walk(begin);
    }

    // ---- cleaning

    public int cleaning(int set) throws IllegalArgumentException {
        needArgument(isSetOfRecipes(set));
        row.find(set);
        return row.bestPrice;
    }

    public int rowAt(int set, int index) throws IllegalArgumentException, IndexOutOfBoundsException {
        needArgument(isSetOfRecipes(set));
        needIndex(isWithin(index, 0, Integer.bitCount(set) - 1));
        row.find(set);
        return row.best[index];
    }

    // ---- books, texts, undo, measures

    public int book(int what) throws IllegalArgumentException {
        needArgument(isWithin(what, 0, 6));
        switch (what) {
            case 0:
                return store.cameIn;
            case 1:
                return store.sold;
            case 2:
                return store.thrown;
            case 3:
                return store.allGrams();
            case 4:
                return doughs.gramsIn(RISING) + doughs.gramsIn(WAITING);
            case 5:
                return doughs.gramsIn(BAKING);
            default:
                return gramsInBreads();
        }
    }

    public int type(long bytes) throws IllegalArgumentException, IllegalStateException {
        int added = text.countBytes(bytes);
        needArgument(added != NONE);
        needState(text.length + added <= PartsText.MOST_BYTES);
        text.append(bytes);
        return text.length;
    }

    public int fault() {
        return text.read();
    }

    public int undo() throws IllegalStateException {
        needState(acts > 0);
        acts--;
        bringBack((oldest + acts) % ACTS * PAGE);
        return acts;
    }

    public int actCount() {
        return acts;
    }

    public double meanAge() {
        int number = 0;
        int ages = 0;
        for (int recipe = 0; recipe < RECIPES; recipe++) {
            for (int age = 0; age < AGES; age++) {
                int pieces = breads.pieces[recipe * AGES + age];
                number += pieces;
                ages += pieces * age;
            }
        }
        return number > 0 ? (double) ages / (double) number : 0.0;
    }

    public float thrownShare() {
        return store.cameIn > 0 ? (float) store.thrown / (float) store.cameIn : 0.0f;
    }

    public long checksum() {
        long c = 31 * 17L + oven.tick;
        for (int good = 0; good < GOODS; good++) {
            c = 31 * c + store.grams[good];
        }
        for (int dough = 0; dough < doughs.count; dough++) {
            c = 31 * c + doughs.state[dough];
            c = 31 * c + doughs.points[dough];
        }
        for (int at = 0; at < recipes.count * AGES; at++) {
            c = 31 * c + breads.pieces[at];
        }
        return c;
    }

    public int errors() {
        int found = 0;
        if (store.cameIn != gramsToldOf()) {
            found++;
        }
        if (plan.leavesOneInVain()) {
            found++;
        }
        if (cart.hasEarlierWay()) {
            found++;
        }
        return found;
    }

    // ---- what the calls need

    private static boolean isWithin(int number, int least, int greatest) {
        return number >= least && number <= greatest;
    }

    private static void needIndex(boolean exists) {
        if (!exists) {
            throw new IndexOutOfBoundsException("there is no such thing");
        }
    }

    private static void needArgument(boolean isInRange) {
        if (!isInRange) {
            throw new IllegalArgumentException("a number is out of range");
        }
    }

    private static void needState(boolean canBe) {
        if (!canBe) {
            throw new IllegalStateException("this cannot be done now");
        }
    }

    private static void needElement(boolean exists) {
        if (!exists) {
            throw new NoSuchElementException("there is none");
        }
    }

    private static void needGood(int good) {
        needIndex(isWithin(good, 0, GOODS - 1));
    }

    private void needRecipe(int recipe) {
        needIndex(isWithin(recipe, 0, recipes.count - 1));
    }

    private void needDough(int dough) {
        needIndex(isWithin(dough, 0, doughs.count - 1));
    }

    private boolean isSetOfRecipes(int set) {
        return isWithin(set, 0, (1 << recipes.count) - 1);
    }

    private boolean isEnoughFor(int recipe, int grams) {
        for (int good = 0; good < GOODS; good++) {
            if (store.grams[good] < recipes.scaled(recipe, grams, good)) {
                return false;
            }
        }
        return true;
    }

    private boolean isRipe(int dough) {
        return doughs.state[dough] == RISING
                && recipes.isRipeWith(doughs.recipe[dough], doughs.points[dough]);
    }

    private boolean isForOven(int dough) {
        boolean isWaiting = doughs.state[dough] == WAITING
                && oven.tick - doughs.shapedAt[dough] <= recipes.wait[doughs.recipe[dough]];
        return isWaiting || isRipe(dough);
    }

    private boolean isOvenFor(int recipe) {
        return oven.tick % ROUND_TICKS == 0
                && doughs.wentIntoOvenAt(oven.tick) < oven.decks
                && isWithin(oven.heat, recipes.heat[recipe], recipes.heat[recipe] + 40);
    }

    private void takeOutOfOven() {
        for (int dough = 0; dough < doughs.count; dough++) {
            if (doughs.state[dough] == BAKING && doughs.ovenAt[dough] + ROUND_TICKS <= oven.tick) {
                doughs.state[dough] = BAKED;
                breads.pieces[doughs.recipe[dough] * AGES] += doughs.pieces[dough];
            }
        }
    }

    private int gramsInBreads() {
        int grams = 0;
        for (int recipe = 0; recipe < recipes.count; recipe++) {
            grams += breads.from(recipe, 0) * recipes.piece[recipe];
        }
        return grams;
    }

    private int gramsToldOf() {
        return store.sold + store.thrown + store.allGrams() + doughs.gramsIn(RISING)
                + doughs.gramsIn(WAITING) + doughs.gramsIn(BAKING) + gramsInBreads();
    }

    /** The top or the bottom of a fraction in lowest terms; the bottom is above 0. */
    private static int lowestTerm(int top, int bottom, boolean isBottom) {
        int divisor = bottom;
        int rest = top;
        for (int step = 0; step < 64 && rest != 0; step++) {
            int next = divisor % rest;
            divisor = rest;
            rest = next;
        }
        if (divisor == 0) {
            return 0;
        }
        return (isBottom ? bottom : top) / divisor;
    }

    /** Makes the next greater order of the first numbers; false if there is none. */
    private static boolean makeNextOrder(int[] order, int count) {
        int turn = count - 2;
        while (turn >= 0 && order[turn] > order[turn + 1]) {
            turn--;
        }
        if (turn < 0) {
            return false;
        }
        int greater = count - 1;
        while (greater > turn && order[greater] < order[turn]) {
            greater--;
        }
        swap(order, turn, greater);
        for (int low = turn + 1, high = count - 1; low < high; low++, high--) {
            swap(order, low, high);
        }
        return true;
    }

    private static void swap(int[] order, int one, int other) {
        int number = order[one];
        order[one] = order[other];
        order[other] = number;
    }

    // ---- the remembered acts

    private void remember() {
        int at = (oldest + acts) % ACTS * PAGE;
        if (acts < ACTS) {
            acts++;
        } else {
            oldest = (oldest + 1) % ACTS;
        }
        at = store.save(past, at);
        at = recipes.save(past, at);
        at = doughs.save(past, at);
        at = oven.save(past, at);
        at = breads.save(past, at);
        at = flours.save(past, at);
        at = notes.save(past, at);
        cart.save(past, at);
    }

    private void bringBack(int page) {
        int at = page;
        at = store.load(past, at);
        at = recipes.load(past, at);
        at = doughs.load(past, at);
        at = oven.load(past, at);
        at = breads.load(past, at);
        at = flours.load(past, at);
        at = notes.load(past, at);
        cart.load(past, at);
    }

    /** The goods, and the sums of what came in and what left the bakery. */
    private static final class Store {
        static final int SIZE = GOODS + 3;
        final int[] grams = new int[GOODS];
        int cameIn;
        int sold;
        int thrown;

        int allGrams() {
            int sum = 0;
            for (int good = 0; good < GOODS; good++) {
                sum += grams[good];
            }
            return sum;
        }

        int save(int[] past, int at) {
            System.arraycopy(grams, 0, past, at, GOODS);
            past[at + GOODS] = cameIn;
            past[at + GOODS + 1] = sold;
            past[at + GOODS + 2] = thrown;
            return at + SIZE;
        }

        int load(int[] past, int at) {
            System.arraycopy(past, at, grams, 0, GOODS);
            cameIn = past[at + GOODS];
            sold = past[at + GOODS + 1];
            thrown = past[at + GOODS + 2];
            return at + SIZE;
        }
    }

    /**
     * The recipes. A page of the past holds only their number, waits and parts: the other rows of
     * a recipe never change, and a new recipe writes its own anew.
     */
    private static final class Recipes {
        static final int SIZE = 1 + RECIPES + RECIPES * GOODS;
        final int[] piece = new int[RECIPES];
        final int[] low = new int[RECIPES];
        final int[] high = new int[RECIPES];
        final int[] heat = new int[RECIPES];
        final int[] allergens = new int[RECIPES];
        final int[] wait = new int[RECIPES];
        final int[] parts = new int[RECIPES * GOODS];
        int count;

        Recipes() {
            for (int recipe = 0; recipe < RECIPES; recipe++) {
                wait[recipe] = 20;
            }
        }

        boolean isRipeWith(int recipe, int points) {
            return isWithin(points, low[recipe], high[recipe]);
        }

        boolean hasParts(int recipe) {
            return partsUpTo(recipe, GOODS - 1) > 0;
        }

        int partsUpTo(int recipe, int lastGood) {
            int sum = 0;
            for (int good = 0; good <= lastGood; good++) {
                sum += parts[recipe * GOODS + good];
            }
            return sum;
        }

        int scaled(int recipe, int grams, int good) {
            return scaledUpTo(recipe, grams, good) - scaledUpTo(recipe, grams, good - 1);
        }

        private int scaledUpTo(int recipe, int grams, int good) {
            int all = partsUpTo(recipe, GOODS - 1);
            if (all <= 0) {
                return 0;
            }
            return (int) ((long) grams * partsUpTo(recipe, good) / all);
        }

        int save(int[] past, int at) {
            past[at] = count;
            System.arraycopy(wait, 0, past, at + 1, RECIPES);
            System.arraycopy(parts, 0, past, at + 1 + RECIPES, RECIPES * GOODS);
            return at + SIZE;
        }

        int load(int[] past, int at) {
            count = past[at];
            System.arraycopy(past, at + 1, wait, 0, RECIPES);
            System.arraycopy(past, at + 1 + RECIPES, parts, 0, RECIPES * GOODS);
            return at + SIZE;
        }
    }

    /** The doughs. A page of the past leaves out what a dough keeps from its making on. */
    private static final class Doughs {
        static final int SIZE = 1 + 4 * DOUGHS;
        final int[] recipe = new int[DOUGHS];
        final int[] pieces = new int[DOUGHS];
        final int[] grams = new int[DOUGHS];
        final int[] points = new int[DOUGHS];
        final int[] state = new int[DOUGHS];
        final int[] shapedAt = new int[DOUGHS];
        final int[] ovenAt = new int[DOUGHS];
        int count;

        /** There is room for one more. */
        int add(int itsRecipe, int itsPieces, int itsGrams) {
            int dough = count;
            recipe[dough] = itsRecipe;
            pieces[dough] = itsPieces;
            grams[dough] = itsGrams;
            points[dough] = 0;
            state[dough] = RISING;
            shapedAt[dough] = NONE;
            ovenAt[dough] = NONE;
            count++;
            return dough;
        }

        void rise(int morePoints) {
            for (int dough = 0; dough < count; dough++) {
                if (state[dough] == RISING) {
                    points[dough] += morePoints;
                }
            }
        }

        boolean isOnTable(int dough) {
            return state[dough] == RISING || state[dough] == WAITING;
        }

        int wentIntoOvenAt(int tick) {
            int number = 0;
            for (int dough = 0; dough < count; dough++) {
                if (ovenAt[dough] == tick) {
                    number++;
                }
            }
            return number;
        }

        int gramsIn(int askedState) {
            int sum = 0;
            for (int dough = 0; dough < count; dough++) {
                if (state[dough] == askedState) {
                    sum += grams[dough];
                }
            }
            return sum;
        }

        int save(int[] past, int at) {
            past[at] = count;
            System.arraycopy(points, 0, past, at + 1, DOUGHS);
            System.arraycopy(state, 0, past, at + 1 + DOUGHS, DOUGHS);
            System.arraycopy(shapedAt, 0, past, at + 1 + 2 * DOUGHS, DOUGHS);
            System.arraycopy(ovenAt, 0, past, at + 1 + 3 * DOUGHS, DOUGHS);
            return at + SIZE;
        }

        int load(int[] past, int at) {
            count = past[at];
            System.arraycopy(past, at + 1, points, 0, DOUGHS);
            System.arraycopy(past, at + 1 + DOUGHS, state, 0, DOUGHS);
            System.arraycopy(past, at + 1 + 2 * DOUGHS, shapedAt, 0, DOUGHS);
            System.arraycopy(past, at + 1 + 3 * DOUGHS, ovenAt, 0, DOUGHS);
            return at + SIZE;
        }
    }

    /** The time, the warmth, and the oven. */
    private static final class Oven {
        static final int SIZE = 5;
        private static final int[] POINTS_OF_WARMTH = {0, 1, 2, 4, 6, 3};
        private static final int HEAT_OF_A_TICK = 5;
        int tick;
        int warmth = 2;
        int decks = 2;
        int heat = 20;
        int setHeat = 20;

        int pointsOfATick() {
            return isWithin(warmth, 0, POINTS_OF_WARMTH.length - 1) ? POINTS_OF_WARMTH[warmth] : 0;
        }

        void letPass(int ticks) {
            tick += ticks;
            int most = ticks * HEAT_OF_A_TICK;
            heat += Math.max(-most, Math.min(most, setHeat - heat));
        }

        int save(int[] past, int at) {
            past[at] = tick;
            past[at + 1] = warmth;
            past[at + 2] = decks;
            past[at + 3] = heat;
            past[at + 4] = setHeat;
            return at + SIZE;
        }

        int load(int[] past, int at) {
            tick = past[at];
            warmth = past[at + 1];
            decks = past[at + 2];
            heat = past[at + 3];
            setHeat = past[at + 4];
            return at + SIZE;
        }
    }

    /** The rounds for the doughs; made anew for each question. */
    private static final class Plan {
        /**
         * No first tick is more than 200 ticks ahead, and so is no last one that has an end; doughs
         * without an end take a deck in each round until all have one.
         */
        private static final int ROUNDS = 40;
        private static final int WITHOUT_END = 1000000;
        private static final int MOST_TO_TRY = 6, MOST_ORDERS = 720;

        private final Recipes recipes;
        private final Doughs doughs;
        private final Oven oven;
        private final int[] first = new int[DOUGHS];
        private final int[] last = new int[DOUGHS];
        final int[] round = new int[DOUGHS];
        private final int[] order = new int[DOUGHS];
        private final int[] taken = new int[ROUNDS];

        Plan(Recipes recipes, Doughs doughs, Oven oven) {
            this.recipes = recipes;
            this.doughs = doughs;
            this.oven = oven;
        }

        void make() {
            for (int dough = 0; dough < doughs.count; dough++) {
                round[dough] = NONE;
                setTicks(dough);
            }
            for (int number = 0; number < ROUNDS; number++) {
                giveRound(beginOf(number));
            }
        }

        int doughsInPlan() {
            int number = 0;
            for (int dough = 0; dough < doughs.count; dough++) {
                if (isInPlan(dough)) {
                    number++;
                }
            }
            return number;
        }

        int doughsWithoutRound() {
            int number = 0;
            for (int dough = 0; dough < doughs.count; dough++) {
                if (isInPlan(dough) && round[dough] == NONE) {
                    number++;
                }
            }
            return number;
        }

        private boolean isInPlan(int dough) {
            return first[dough] <= last[dough];
        }

        private boolean canBegin(int dough, int begin) {
            return first[dough] <= begin && begin <= last[dough];
        }

        private int beginOf(int number) {
            int ahead = (oven.tick + ROUND_TICKS - 1) / ROUND_TICKS;
            return (ahead + number) * ROUND_TICKS;
        }

        private void giveRound(int begin) {
            for (int deck = 0; deck < oven.decks; deck++) {
                int next = NONE;
                for (int dough = 0; dough < doughs.count; dough++) {
                    if (round[dough] == NONE && canBegin(dough, begin)
                            && (next == NONE || last[dough] < last[next])) {
                        next = dough;
                    }
                }
                if (next == NONE) {
                    return;
                }
                round[next] = begin;
            }
        }

        private void setTicks(int dough) {
            first[dough] = oven.tick;
            last[dough] = NONE;
            int recipe = doughs.recipe[dough];
            if (doughs.state[dough] == WAITING) {
                last[dough] = doughs.shapedAt[dough] + recipes.wait[recipe];
            } else if (doughs.state[dough] == RISING) {
                setTicksOfRising(dough, recipes.low[recipe] - doughs.points[dough],
                        recipes.high[recipe] - doughs.points[dough]);
            }
        }

        private void setTicksOfRising(int dough, int toLow, int toHigh) {
            int gain = oven.pointsOfATick();
            if (toHigh < 0) {
                return;
            }
            if (gain > 0) {
                first[dough] = oven.tick + (Math.max(toLow, 0) + gain - 1) / gain;
                last[dough] = oven.tick + toHigh / gain;
            } else if (toLow <= 0) {
                last[dough] = WITHOUT_END;
            }
        }

        /** Looks whether the plan leaves a dough without a round though all could have one. */
        boolean leavesOneInVain() {
            make();
            int number = doughsInPlan();
            if (number > MOST_TO_TRY || doughsWithoutRound() == 0) {
                return false;
            }
            int filled = 0;
            for (int dough = 0; dough < doughs.count; dough++) {
                if (isInPlan(dough)) {
                    order[filled] = dough;
                    filled++;
                }
            }
            for (int tries = 0; tries < MOST_ORDERS; tries++) {
                if (allGetRounds(number)) {
                    return true;
                }
                if (!makeNextOrder(order, number)) {
                    return false;
                }
            }
            return false;
        }

        private boolean allGetRounds(int number) {
            Arrays.fill(taken, 0);
            for (int i = 0; i < number; i++) {
                int free = earliestFree(order[i]);
                if (free == NONE) {
                    return false;
                }
                taken[free]++;
            }
            return true;
        }

        private int earliestFree(int dough) {
            for (int number = 0; number < ROUNDS; number++) {
                if (taken[number] < oven.decks && canBegin(dough, beginOf(number))) {
                    return number;
                }
            }
            return NONE;
        }
    }

    /** The breads by recipe and age. */
    private static final class Breads {
        static final int SIZE = RECIPES * AGES;
        final int[] pieces = new int[SIZE];

        int from(int recipe, int leastAge) {
            int sum = 0;
            for (int age = leastAge; age < AGES; age++) {
                sum += pieces[recipe * AGES + age];
            }
            return sum;
        }

        /** Returns how many are too old then. */
        int growOlder(int recipe) {
            int youngest = recipe * AGES;
            int tooOld = pieces[youngest + AGES - 1];
            for (int age = AGES - 1; age > 0; age--) {
                pieces[youngest + age] = pieces[youngest + age - 1];
            }
            pieces[youngest] = 0;
            return tooOld;
        }

        /** Returns the greatest age of those that are taken; there are enough of them. */
        int takeOldest(int recipe, int number) {
            int greatest = NONE;
            int left = number;
            for (int age = AGES - 1; age >= 0 && left > 0; age--) {
                int taken = Math.min(left, pieces[recipe * AGES + age]);
                pieces[recipe * AGES + age] -= taken;
                left -= taken;
                if (taken > 0 && greatest == NONE) {
                    greatest = age;
                }
            }
            return greatest;
        }

        int save(int[] past, int at) {
            System.arraycopy(pieces, 0, past, at, SIZE);
            return at + SIZE;
        }

        int load(int[] past, int at) {
            System.arraycopy(past, at, pieces, 0, SIZE);
            return at + SIZE;
        }
    }

    /**
     * The flours and their cheapest mix. The told mix is a corner of the room of all mixes: all
     * flours but one stand at 0 or at their cap, or all but two do, and the strength is at a bound.
     * So all such corners are tried; each is a row of tops over one bottom.
     */
    private static final class Flours {
        static final int SIZE = 3 * FLOURS;
        private static final int CHOICES = 1 << FLOURS;
        final int[] strength = new int[FLOURS];
        final int[] cost = new int[FLOURS];
        final int[] cap = new int[FLOURS];
        final int[] bestTops = new int[FLOURS];
        int bestBottom;
        private final int[] tops = new int[FLOURS];
        private int bottom;

        Flours() {
            for (int flour = 0; flour < FLOURS; flour++) {
                strength[flour] = 100;
                cost[flour] = 50;
                cap[flour] = HUNDRED;
            }
        }

        boolean findMix(int low, int high) {
            bestBottom = 0;
            for (int capped = 0; capped < CHOICES; capped++) {
                for (int one = 0; one < FLOURS; one++) {
                    if (!isIn(capped, one)) {
                        tryOneFree(capped, one);
                        keepIfBetter(low, high);
                        tryPairs(capped, one, low, high);
                    }
                }
            }
            return bestBottom > 0;
        }

        int costOf(int[] row) {
            int sum = 0;
            for (int flour = 0; flour < FLOURS; flour++) {
                sum += row[flour] * cost[flour];
            }
            return sum;
        }

        private static boolean isIn(int capped, int flour) {
            return (capped >> flour & 1) != 0;
        }

        private void tryPairs(int capped, int strong, int low, int high) {
            for (int weak = 0; weak < FLOURS; weak++) {
                if (!isIn(capped, weak) && strength[strong] > strength[weak]) {
                    tryTwoFree(capped, strong, weak, low);
                    keepIfBetter(low, high);
                    tryTwoFree(capped, strong, weak, high);
                    keepIfBetter(low, high);
                }
            }
        }

        private void tryOneFree(int capped, int free) {
            int left = HUNDRED;
            for (int flour = 0; flour < FLOURS; flour++) {
                tops[flour] = isIn(capped, flour) ? cap[flour] : 0;
                left -= tops[flour];
            }
            tops[free] = left;
            bottom = HUNDRED;
        }

        private void tryTwoFree(int capped, int strong, int weak, int wanted) {
            int gap = strength[strong] - strength[weak];
            int left = HUNDRED;
            int strengthLeft = HUNDRED * wanted;
            for (int flour = 0; flour < FLOURS; flour++) {
                int share = isIn(capped, flour) ? cap[flour] : 0;
                left -= share;
                strengthLeft -= share * strength[flour];
                tops[flour] = share * gap;
            }
            tops[strong] = strengthLeft - left * strength[weak];
            tops[weak] = left * strength[strong] - strengthLeft;
            bottom = HUNDRED * gap;
        }

        private void keepIfBetter(int low, int high) {
            if (isMix(low, high) && (bestBottom == 0 || isBetter())) {
                System.arraycopy(tops, 0, bestTops, 0, FLOURS);
                bestBottom = bottom;
            }
        }

        private boolean isMix(int low, int high) {
            int sum = 0;
            for (int flour = 0; flour < FLOURS; flour++) {
                if (tops[flour] < 0 || HUNDRED * tops[flour] > cap[flour] * bottom) {
                    return false;
                }
                sum += tops[flour] * strength[flour];
            }
            return isWithin(sum, low * bottom, high * bottom);
        }

        private boolean isBetter() {
            int order = compareToBest(costOf(tops), costOf(bestTops));
            for (int flour = 0; flour < FLOURS && order == 0; flour++) {
                order = compareToBest(tops[flour], bestTops[flour]);
            }
            return order < 0;
        }

        private int compareToBest(int top, int bestTop) {
            return Long.compare((long) top * bestBottom, (long) bestTop * bottom);
        }

        int save(int[] past, int at) {
            System.arraycopy(strength, 0, past, at, FLOURS);
            System.arraycopy(cost, 0, past, at + FLOURS, FLOURS);
            System.arraycopy(cap, 0, past, at + 2 * FLOURS, FLOURS);
            return at + SIZE;
        }

        int load(int[] past, int at) {
            System.arraycopy(past, at, strength, 0, FLOURS);
            System.arraycopy(past, at + FLOURS, cost, 0, FLOURS);
            System.arraycopy(past, at + 2 * FLOURS, cap, 0, FLOURS);
            return at + SIZE;
        }
    }

    /** What was wanted. Notes are only added, so a page of the past holds just their numbers. */
    private static final class Notes {
        static final int SIZE = RECIPES;
        final int[] wanted = new int[RECIPES * NOTES];
        final int[] count = new int[RECIPES];

        int lossOf(int recipe, int number, int over, int under) {
            int sum = 0;
            for (int i = 0; i < count[recipe]; i++) {
                int more = number - wanted[recipe * NOTES + i];
                sum += more > 0 ? over * more : under * -more;
            }
            return sum;
        }

        int bestFor(int recipe, int over, int under) {
            int best = 0;
            int bestLoss = lossOf(recipe, 0, over, under);
            for (int number = 1; number < NUMBERS; number++) {
                int itsLoss = lossOf(recipe, number, over, under);
                if (itsLoss < bestLoss) {
                    best = number;
                    bestLoss = itsLoss;
                }
            }
            return best;
        }

        int save(int[] past, int at) {
            System.arraycopy(count, 0, past, at, RECIPES);
            return at + SIZE;
        }

        int load(int[] past, int at) {
            System.arraycopy(past, at, count, 0, RECIPES);
            return at + SIZE;
        }
    }

    /** The shops, which are only added, and the ways through them. */
    private static final class Cart {
        static final int SIZE = 1;
        private static final int BAKERY = SHOPS;
        private static final int MOST_TO_TRY = 5, MOST_ORDERS = 120;
        final int[] x = new int[SHOPS + 1];
        final int[] y = new int[SHOPS + 1];
        final int[] opening = new int[SHOPS];
        final int[] closing = new int[SHOPS];
        final int[] stay = new int[SHOPS];
        int count;
        final int[] bestWay = new int[SHOPS];
        int bestBack;
        private final int[] way = new int[SHOPS];

        /** Finds the best way; false if none meets the hours. */
        boolean findWay(int begin) {
            bestBack = NONE;
            goOn(this, 0, 0, begin);
            return bestBack != NONE;
        }

        /**
         * Goes on from the first shops of the way, at the minute at which the last of them is left.
         * Lower numbers are gone to first, so of equal ways the first one found is the told one.
         */
        private static void goOn(Cart cart, int done, int visited, int minute) {
            int from = done > 0 && done <= SHOPS ? cart.way[done - 1] : BAKERY;
            int back = minute + cart.minutesBetween(from, BAKERY);
            boolean canBeBest = cart.bestBack == NONE || back < cart.bestBack;
            if (done >= cart.count || done >= SHOPS) {
                if (canBeBest) {
                    cart.bestBack = back;
                    System.arraycopy(cart.way, 0, cart.bestWay, 0, SHOPS);
                }
                return;
            }
            if (!canBeBest) {
                return;
            }
            for (int shop = 0; shop < cart.count; shop++) {
                int left = (visited >> shop & 1) == 0 ? cart.leaves(shop, from, minute) : NONE;
                if (left != NONE) {
                    cart.way[done] = shop;
                    goOn(cart, done + 1, visited | 1 << shop, left);
                }
            }
        }

        private int minutesBetween(int one, int other) {
            return Math.abs(x[one] - x[other]) + Math.abs(y[one] - y[other]);
        }

        /** The minute at which a shop is left; NONE if it is reached too late. */
        private int leaves(int shop, int from, int minute) {
            int reached = minute + minutesBetween(from, shop);
            if (reached > closing[shop]) {
                return NONE;
            }
            return Math.max(reached, opening[shop]) + stay[shop];
        }

        /** Takes a number as the way; false if it does not have each shop just once. */
        boolean readWay(int number) {
            int rest = number;
            int visited = 0;
            for (int i = count - 1; i >= 0; i--) {
                int shop = rest % 10;
                rest /= 10;
                if (!isWithin(shop, 0, count - 1) || (visited >> shop & 1) != 0) {
                    return false;
                }
                visited |= 1 << shop;
                way[i] = shop;
            }
            return rest == 0;
        }

        /** The minute at which the way comes back; NONE if it does not meet the hours. */
        int walk(int begin) {
            int minute = begin;
            int from = BAKERY;
            for (int i = 0; i < count; i++) {
                minute = leaves(way[i], from, minute);
                if (minute == NONE) {
                    return NONE;
                }
                from = way[i];
            }
            return minute + minutesBetween(from, BAKERY);
        }

        /** Looks for a way from the minute 0 that comes back earlier than the best one. */
        boolean hasEarlierWay() {
            if (count > MOST_TO_TRY) {
                return false;
            }
            boolean isFound = findWay(0);
            for (int i = 0; i < count; i++) {
                way[i] = i;
            }
            for (int tries = 0; tries < MOST_ORDERS; tries++) {
                int back = walk(0);
                if (back != NONE && (!isFound || back < bestBack)) {
                    return true;
                }
                if (!makeNextOrder(way, count)) {
                    return false;
                }
            }
            return false;
        }

        int save(int[] past, int at) {
            past[at] = count;
            return at + SIZE;
        }

        int load(int[] past, int at) {
            count = past[at];
            return at + SIZE;
        }
    }

    /** The row of doughs with the least cleaning; found anew for each question. */
    private static final class Row {
        private static final int[] PRICES = {3, 5, 2, 4};
        private final Recipes recipes;
        private final int[] tried = new int[RECIPES];
        final int[] best = new int[RECIPES];
        int bestPrice;

        Row(Recipes recipes) {
            this.recipes = recipes;
        }

        void find(int set) {
            bestPrice = NONE;
            goOn(this, 0, set, 0);
        }

        /** Of equal rows the first one found is the told one: lower numbers are tried first. */
        private static void goOn(Row row, int done, int left, int price) {
            if (row.bestPrice != NONE && price >= row.bestPrice) {
                return;
            }
            if (left == 0 || done >= RECIPES) {
                row.bestPrice = price;
                System.arraycopy(row.tried, 0, row.best, 0, RECIPES);
                return;
            }
            for (int recipe = 0; recipe < RECIPES; recipe++) {
                if ((left >> recipe & 1) != 0) {
                    row.tried[done] = recipe;
                    int more = done > 0 ? row.priceBetween(row.tried[done - 1], recipe) : 0;
                    goOn(row, done + 1, left & ~(1 << recipe), price + more);
                }
            }
        }

        private int priceBetween(int one, int next) {
            int cleaned = recipes.allergens[one] & ~recipes.allergens[next];
            int sum = 0;
            for (int allergen = 0; allergen < PRICES.length; allergen++) {
                if ((cleaned >> allergen & 1) != 0) {
                    sum += PRICES[allergen];
                }
            }
            return sum;
        }
    }

    /** The text, and the parts that it tells. */
    private static final class PartsText {
        static final int MOST_BYTES = 80;
        private static final int MOST_DIGITS = 4;
        private static final int BYTES_OF_A_LONG = 8;
        private final int[] bytes = new int[MOST_BYTES];
        int length;
        final int[] parts = new int[GOODS];

        /** How many bytes a number has that are not 0; NONE if one of them is not 32 to 126. */
        int countBytes(long number) {
            int sum = 0;
            for (int i = 0; i < BYTES_OF_A_LONG; i++) {
                int next = byteOf(number, i);
                if (next != 0 && !isWithin(next, 32, 126)) {
                    return NONE;
                }
                if (next != 0) {
                    sum++;
                }
            }
            return sum;
        }

        void append(long number) {
            for (int i = 0; i < BYTES_OF_A_LONG; i++) {
                int next = byteOf(number, i);
                if (next != 0 && length < MOST_BYTES) {
                    bytes[length] = next;
                    length++;
                }
            }
        }

        /** The highest byte has the place 0. */
        private static int byteOf(long number, int place) {
            return (int) (number >>> 8 * (BYTES_OF_A_LONG - 1 - place)) & 255;
        }

        /** Reads the text into the parts and returns its fault; NONE if it has none. */
        int read() {
            Arrays.fill(parts, 0);
            int place = 0;
            int goodBefore = NONE;
            // Each part takes up three places at least, and each good comes once.
            for (int number = 0; number <= GOODS; number++) {
                int goodAt = skipBlanks(place);
                int goodEnd = endOfNumber(goodAt);
                int good = valueOf(goodAt, goodEnd);
                if (!isNumber(goodAt, goodEnd)) {
                    return faultOfNumber(goodAt, goodEnd);
                }
                if (good >= GOODS || good <= goodBefore) {
                    return goodAt;
                }
                int colon = skipBlanks(goodEnd);
                if (!hasAt(colon, ':')) {
                    return colon;
                }
                int partsAt = skipBlanks(colon + 1);
                int partsEnd = endOfNumber(partsAt);
                if (!isNumber(partsAt, partsEnd)) {
                    return faultOfNumber(partsAt, partsEnd);
                }
                parts[good] = valueOf(partsAt, partsEnd);
                int comma = skipBlanks(partsEnd);
                if (comma >= length) {
                    return NONE;
                }
                if (!hasAt(comma, ',')) {
                    return comma;
                }
                place = comma + 1;
                goodBefore = good;
            }
            return place;
        }

        private boolean hasAt(int place, char sign) {
            return place < length && bytes[place] == sign;
        }

        private int skipBlanks(int place) {
            int next = place;
            while (next < length && hasAt(next, ' ')) {
                next++;
            }
            return next;
        }

        private int endOfNumber(int place) {
            int next = place;
            while (next < length && isWithin(bytes[next], '0', '9')) {
                next++;
            }
            return next;
        }

        private static boolean isNumber(int from, int end) {
            return isWithin(end - from, 1, MOST_DIGITS);
        }

        private static int faultOfNumber(int from, int end) {
            return end > from ? from + MOST_DIGITS : from;
        }

        /** The value of the first digits, as many as a number may have. */
        private int valueOf(int from, int end) {
            int value = 0;
            for (int place = from; place < end && place < from + MOST_DIGITS; place++) {
                value = 10 * value + bytes[place] - '0';
            }
            return value;
        }
    }
}
