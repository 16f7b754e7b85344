import java.util.ArrayDeque;
import java.util.ArrayList;
import java.util.List;
import java.util.NoSuchElementException;

/**
 * The document a second time, as slow and plain as can be: ticks pass one by one, undo keeps whole
 * copies, all orders are gone through, and the mix is found by Cramer's rule.
 */
final class Model {
    static final class Recipe {
        int piece, low, high, heat, allergens, wait = 20;
        int[] parts = new int[8];
        int[] breads = new int[4];
        List<Integer> notes = new ArrayList<>();

        Recipe copy() {
            Recipe c = new Recipe();
            c.piece = piece;
            c.low = low;
            c.high = high;
            c.heat = heat;
            c.allergens = allergens;
            c.wait = wait;
            c.parts = parts.clone();
            c.breads = breads.clone();
            c.notes = new ArrayList<>(notes);
            return c;
        }

        int all() {
            int sum = 0;
            for (int p : parts) {
                sum += p;
            }
            return sum;
        }

        int[] scale(long grams) {
            int[] amounts = new int[8];
            long given = 0;
            long upTo = 0;
            for (int g = 0; g < 8; g++) {
                upTo += parts[g];
                long due = grams * upTo / all();
                amounts[g] = (int) (due - given);
                given = due;
            }
            return amounts;
        }
    }

    static final class Dough {
        int recipe, pieces, points, state, shapedAt = -1, ovenAt = -1;

        Dough copy() {
            Dough c = new Dough();
            c.recipe = recipe;
            c.pieces = pieces;
            c.points = points;
            c.state = state;
            c.shapedAt = shapedAt;
            c.ovenAt = ovenAt;
            return c;
        }
    }

    static final class State {
        int[] store = new int[8];
        int cameIn, sold, thrown, tick, warmth = 2, decks = 2, heat = 20, setHeat = 20;
        List<Recipe> recipes = new ArrayList<>();
        List<Dough> doughs = new ArrayList<>();
        int[][] flours = {{100, 50, 100}, {100, 50, 100}, {100, 50, 100}, {100, 50, 100}};
        List<int[]> shops = new ArrayList<>();

        State copy() {
            State c = new State();
            c.store = store.clone();
            c.cameIn = cameIn;
            c.sold = sold;
            c.thrown = thrown;
            c.tick = tick;
            c.warmth = warmth;
            c.decks = decks;
            c.heat = heat;
            c.setHeat = setHeat;
            for (Recipe r : recipes) {
                c.recipes.add(r.copy());
            }
            for (Dough d : doughs) {
                c.doughs.add(d.copy());
            }
            for (int i = 0; i < 4; i++) {
                c.flours[i] = flours[i].clone();
            }
            c.shops.addAll(shops);
            return c;
        }
    }

    State s = new State();
    final ArrayDeque<State> past = new ArrayDeque<>();
    String text = "";

    private void act() {
        past.addLast(s.copy());
        if (past.size() > 8) {
            past.removeFirst();
        }
    }

    private static void index(boolean ok) {
        if (!ok) {
            throw new IndexOutOfBoundsException();
        }
    }

    private static void range(int x, int from, int to) {
        if (x < from || x > to) {
            throw new IllegalArgumentException();
        }
    }

    private static void state(boolean ok) {
        if (!ok) {
            throw new IllegalStateException();
        }
    }

    private Recipe recipe(int r) {
        index(r >= 0 && r < s.recipes.size());
        return s.recipes.get(r);
    }

    private Dough dough(int d) {
        index(d >= 0 && d < s.doughs.size());
        return s.doughs.get(d);
    }

    int grams(Dough d) {
        return d.pieces * s.recipes.get(d.recipe).piece;
    }

    int receive(int good, int grams) {
        index(good >= 0 && good <= 7);
        range(good, 0, 6);
        range(grams, 1, 200000);
        state(s.store[good] + grams <= 1000000);
        act();
        s.cameIn += grams;
        return s.store[good] += grams;
    }

    int store(int good) {
        index(good >= 0 && good <= 7);
        return s.store[good];
    }

    int addRecipe(int piece, int low, int high, int heat, int allergens) {
        range(piece, 50, 2000);
        range(low, 1, 200);
        range(high, low, 200);
        range(heat, 100, 300);
        range(allergens, 0, 15);
        state(s.recipes.size() < 6);
        act();
        Recipe r = new Recipe();
        r.piece = piece;
        r.low = low;
        r.high = high;
        r.heat = heat;
        r.allergens = allergens;
        s.recipes.add(r);
        return s.recipes.size() - 1;
    }

    int setWait(int recipe, int wait) {
        recipe(recipe);
        range(wait, 0, 99);
        act();
        int before = recipe(recipe).wait;
        recipe(recipe).wait = wait;
        return before;
    }

    int setPart(int recipe, int good, int parts) {
        recipe(recipe);
        index(good >= 0 && good <= 7);
        range(parts, 0, 9999);
        act();
        int before = recipe(recipe).parts[good];
        recipe(recipe).parts[good] = parts;
        return before;
    }

    int readParts(int recipe) {
        String read = text;
        text = "";
        recipe(recipe);
        if (faultOf(read) != -1) {
            throw new IllegalArgumentException();
        }
        act();
        int[] parts = new int[8];
        for (String part : read.split(",")) {
            String[] two = part.split(":");
            parts[Integer.parseInt(two[0].trim())] = Integer.parseInt(two[1].trim());
        }
        recipe(recipe).parts = parts;
        return recipe(recipe).all();
    }

    /** Sign by sign: what may come next is told by a mode. */
    static int faultOf(String text) {
        int mode = 0;
        int before = -1;
        String digits = "";
        int digitsAt = 0;
        // 0 ahead of a good, 1 in a good, 2 behind it, 3 ahead of parts, 4 in parts, 5 behind them
        for (int i = 0; i <= text.length(); i++) {
            char c = i < text.length() ? text.charAt(i) : 0;
            boolean isDigit = c >= '0' && c <= '9';
            if ((mode == 1 || mode == 4) && isDigit) {
                if (digits.length() == 4) {
                    return i;
                }
                digits += c;
                continue;
            }
            if (mode == 1) {
                int good = Integer.parseInt(digits);
                if (good > 7 || good <= before) {
                    return digitsAt;
                }
                before = good;
                mode = 2;
            }
            if (mode == 4) {
                mode = 5;
            }
            if (i == text.length()) {
                return mode == 5 ? -1 : i;
            }
            if (c == ' ') {
                continue;
            }
            if ((mode == 0 || mode == 3) && isDigit) {
                digits = "" + c;
                digitsAt = i;
                mode++;
            } else if (mode == 2 && c == ':') {
                mode = 3;
            } else if (mode == 5 && c == ',') {
                mode = 0;
            } else {
                return i;
            }
        }
        throw new AssertionError();
    }

    int amount(int recipe, int grams, int good) {
        recipe(recipe);
        index(good >= 0 && good <= 7);
        range(grams, 1, 100000);
        state(recipe(recipe).all() > 0);
        return recipe(recipe).scale(grams)[good];
    }

    int mix(int recipe, int pieces) {
        Recipe r = recipe(recipe);
        range(pieces, 1, 40);
        state(s.doughs.size() < 20);
        state(r.all() > 0);
        int[] amounts = r.scale((long) pieces * r.piece);
        for (int g = 0; g < 8; g++) {
            state(s.store[g] >= amounts[g]);
        }
        act();
        for (int g = 0; g < 8; g++) {
            s.store[g] -= amounts[g];
        }
        Dough d = new Dough();
        d.recipe = recipe;
        d.pieces = pieces;
        s.doughs.add(d);
        return s.doughs.size() - 1;
    }

    int setWarmth(int warmth) {
        range(warmth, 0, 5);
        act();
        int before = s.warmth;
        s.warmth = warmth;
        return before;
    }

    private int gain() {
        return "012463".charAt(s.warmth) - '0';
    }

    int pass(int ticks) {
        range(ticks, 1, 200);
        state(s.tick + ticks <= 100000);
        act();
        for (int i = 0; i < ticks; i++) {
            s.tick++;
            for (Dough d : s.doughs) {
                if (d.state == 0) {
                    d.points += gain();
                }
            }
            for (int h = 0; h < 5; h++) {
                s.heat += Integer.compare(s.setHeat, s.heat);
            }
            for (Dough d : s.doughs) {
                if (d.state == 2 && d.ovenAt + 10 == s.tick) {
                    d.state = 3;
                    s.recipes.get(d.recipe).breads[0] += d.pieces;
                }
            }
        }
        return s.tick;
    }

    private boolean isRipe(Dough d) {
        Recipe r = s.recipes.get(d.recipe);
        return d.state == 0 && d.points >= r.low && d.points <= r.high;
    }

    int shape(int dough) {
        Dough d = dough(dough);
        state(isRipe(d));
        act();
        d = dough(dough);
        d.state = 1;
        d.shapedAt = s.tick;
        return d.points;
    }

    int doughAt(int dough, int what) {
        Dough d = dough(dough);
        range(what, 0, 6);
        return new int[] {d.recipe, d.pieces, d.points, d.state, grams(d), d.shapedAt, d.ovenAt}[what];
    }

    int throwAway(int dough) {
        Dough d = dough(dough);
        state(d.state < 2);
        act();
        d.state = 4;
        s.thrown += grams(d);
        return grams(d);
    }

    int setHeat(int heat) {
        range(heat, 20, 320);
        act();
        s.setHeat = heat;
        return s.heat;
    }

    int setDecks(int decks) {
        range(decks, 1, 4);
        act();
        int before = s.decks;
        s.decks = decks;
        return before;
    }

    int bake(int dough) {
        Dough d = dough(dough);
        Recipe r = s.recipes.get(d.recipe);
        state(s.tick % 10 == 0);
        state(isRipe(d) || d.state == 1 && d.shapedAt + r.wait >= s.tick);
        int gone = 0;
        for (Dough other : s.doughs) {
            if (other.ovenAt == s.tick) {
                gone++;
            }
        }
        state(gone < s.decks);
        state(s.heat >= r.heat && s.heat <= r.heat + 40);
        act();
        d.state = 2;
        d.ovenAt = s.tick;
        return s.tick + 10;
    }

    /** First and last tick from now on, found tick by tick; null if it is not in the plan. */
    private int[] ticksOf(Dough d) {
        Recipe r = s.recipes.get(d.recipe);
        int first = -1;
        int last = -1;
        for (int tick = s.tick; tick <= s.tick + 1000; tick++) {
            int points = d.points + gain() * (tick - s.tick);
            boolean can = d.state == 0 && points >= r.low && points <= r.high
                    || d.state == 1 && tick <= d.shapedAt + r.wait;
            if (can) {
                first = first < 0 ? tick : first;
                last = tick;
            }
        }
        return first < 0 ? null : new int[] {first, last};
    }

    /** Per dough: -2 not in the plan, -1 without a round, or the begin of its round. */
    private int[] plan() {
        int[] rounds = new int[s.doughs.size()];
        List<int[]> open = new ArrayList<>();
        for (int i = 0; i < rounds.length; i++) {
            int[] ticks = ticksOf(s.doughs.get(i));
            rounds[i] = ticks == null ? -2 : -1;
            if (ticks != null) {
                open.add(new int[] {ticks[1], i, ticks[0]});
            }
        }
        open.sort((a, b) -> a[0] != b[0] ? a[0] - b[0] : a[1] - b[1]);
        for (int begin = s.tick; begin <= s.tick + 900; begin++) {
            int decks = begin % 10 == 0 ? s.decks : 0;
            for (int i = 0; i < open.size() && decks > 0; i++) {
                int[] d = open.get(i);
                if (d[2] <= begin && begin <= d[0]) {
                    rounds[d[1]] = begin;
                    open.remove(i--);
                    decks--;
                }
            }
        }
        return rounds;
    }

    int planned(int dough) {
        dough(dough);
        return Math.max(-1, plan()[dough]);
    }

    int inPlan() {
        int number = 0;
        for (int round : plan()) {
            number += round != -2 ? 1 : 0;
        }
        return number;
    }

    int late() {
        int number = 0;
        for (int round : plan()) {
            number += round == -1 ? 1 : 0;
        }
        return number;
    }

    int breads(int recipe, int age) {
        recipe(recipe);
        range(age, 0, 3);
        return recipe(recipe).breads[age];
    }

    int endDay() {
        act();
        int gone = 0;
        for (Recipe r : s.recipes) {
            gone += r.breads[3];
            s.thrown += r.breads[3] * r.piece;
            r.breads = new int[] {0, r.breads[0], r.breads[1], r.breads[2]};
        }
        return gone;
    }

    int sell(int recipe, int pieces) {
        Recipe r = recipe(recipe);
        range(pieces, 1, 99);
        state(r.breads[0] + r.breads[1] + r.breads[2] + r.breads[3] >= pieces);
        act();
        int greatest = -1;
        for (int i = 0; i < pieces; i++) {
            int age = 3;
            while (r.breads[age] == 0) {
                age--;
            }
            r.breads[age]--;
            s.sold += r.piece;
            greatest = Math.max(greatest, age);
        }
        return greatest;
    }

    int crumble(int recipe) {
        Recipe r = recipe(recipe);
        act();
        int grams = (r.breads[1] + r.breads[2] + r.breads[3]) * r.piece;
        r.breads = new int[] {r.breads[0], 0, 0, 0};
        s.store[7] += grams;
        return grams;
    }

    int setFlour(int flour, int strength, int cost, int cap) {
        index(flour >= 0 && flour < 4);
        range(strength, 0, 200);
        range(cost, 0, 999);
        range(cap, 0, 100);
        act();
        int before = s.flours[flour][1];
        s.flours[flour] = new int[] {strength, cost, cap};
        return before;
    }

    private static long det(long[][] m, int skipRow, boolean[] usedColumn) {
        if (skipRow == m.length) {
            return 1;
        }
        long sum = 0;
        int sign = 1;
        for (int c = 0; c < m.length; c++) {
            if (!usedColumn[c]) {
                usedColumn[c] = true;
                sum += sign * m[skipRow][c] * det(m, skipRow + 1, usedColumn);
                usedColumn[c] = false;
                sign = -sign;
            }
        }
        return sum;
    }

    /** The four shares as tops over one bottom (the fifth number); null if there is no mix. */
    private long[] bestMix(int low, int high) {
        long[][] bounds = new long[10][];
        for (int f = 0; f < 4; f++) {
            long[] one = {0, 0, 0, 0, 0};
            one[f] = 100;
            bounds[f] = one;
            bounds[4 + f] = one.clone();
            bounds[4 + f][4] = s.flours[f][2];
        }
        for (int i = 0; i < 2; i++) {
            bounds[8 + i] = new long[] {s.flours[0][0], s.flours[1][0], s.flours[2][0], s.flours[3][0],
                    i == 0 ? low : high};
        }
        long[] best = null;
        for (int a = 0; a < 10; a++) {
            for (int b = a + 1; b < 10; b++) {
                for (int c = b + 1; c < 10; c++) {
                    long[] corner = solve(new long[][] {{1, 1, 1, 1, 1}, bounds[a], bounds[b], bounds[c]});
                    if (corner != null && isMix(corner, low, high) && (best == null || less(corner, best))) {
                        best = corner;
                    }
                }
            }
        }
        return best;
    }

    private static long[] solve(long[][] rows) {
        long bottom = det(rows, 0, new boolean[4]);
        if (bottom == 0) {
            return null;
        }
        long[] solved = new long[5];
        for (int f = 0; f < 4; f++) {
            long[][] m = new long[4][];
            for (int r = 0; r < 4; r++) {
                m[r] = rows[r].clone();
                m[r][f] = rows[r][4];
            }
            solved[f] = det(m, 0, new boolean[4]) * (bottom < 0 ? -1 : 1);
        }
        solved[4] = Math.abs(bottom);
        return solved;
    }

    private boolean isMix(long[] corner, int low, int high) {
        long strength = 0;
        for (int f = 0; f < 4; f++) {
            if (corner[f] < 0 || 100 * corner[f] > s.flours[f][2] * corner[4]) {
                return false;
            }
            strength += s.flours[f][0] * corner[f];
        }
        return strength >= low * corner[4] && strength <= high * corner[4];
    }

    private long cost(long[] corner) {
        long cost = 0;
        for (int f = 0; f < 4; f++) {
            cost += s.flours[f][1] * corner[f];
        }
        return cost;
    }

    private boolean less(long[] a, long[] b) {
        int order = compare(cost(a), a[4], cost(b), b[4]);
        for (int f = 0; f < 4 && order == 0; f++) {
            order = compare(a[f], a[4], b[f], b[4]);
        }
        return order < 0;
    }

    private static int compare(long top, long bottom, long otherTop, long otherBottom) {
        return java.math.BigInteger.valueOf(top).multiply(java.math.BigInteger.valueOf(otherBottom))
                .compareTo(java.math.BigInteger.valueOf(otherTop).multiply(java.math.BigInteger.valueOf(bottom)));
    }

    private static int term(long top, long bottom, boolean isBottom) {
        long d = java.math.BigInteger.valueOf(top).gcd(java.math.BigInteger.valueOf(bottom)).longValue();
        return (int) ((isBottom ? bottom : top) / d);
    }

    private long[] mixOf(int low, int high) {
        range(low, 0, 200);
        range(high, low, 200);
        long[] best = bestMix(low, high);
        if (best == null) {
            throw new NoSuchElementException();
        }
        return best;
    }

    int mixCost(int low, int high, boolean isBottom) {
        long[] best = mixOf(low, high);
        return term(cost(best), best[4], isBottom);
    }

    int mixShare(int low, int high, int flour, boolean isBottom) {
        index(flour >= 0 && flour < 4);
        long[] best = mixOf(low, high);
        return term(best[flour], best[4], isBottom);
    }

    int note(int recipe, int wanted) {
        recipe(recipe);
        range(wanted, 0, 99);
        state(recipe(recipe).notes.size() < 60);
        act();
        recipe(recipe).notes.add(wanted);
        return recipe(recipe).notes.size();
    }

    int bestNumber(int recipe, int over, int under) {
        recipe(recipe);
        range(over, 0, 99);
        range(under, 0, 99);
        if (recipe(recipe).notes.isEmpty()) {
            throw new NoSuchElementException();
        }
        int best = 99;
        for (int number = 99; number >= 0; number--) {
            if (loss(recipe, number, over, under) <= loss(recipe, best, over, under)) {
                best = number;
            }
        }
        return best;
    }

    int loss(int recipe, int number, int over, int under) {
        recipe(recipe);
        range(number, 0, 99);
        range(over, 0, 99);
        range(under, 0, 99);
        int sum = 0;
        for (int wanted : recipe(recipe).notes) {
            sum += over * Math.max(0, number - wanted) + under * Math.max(0, wanted - number);
        }
        return sum;
    }

    int addShop(int x, int y, int opening, int closing, int stay) {
        range(x, 0, 20);
        range(y, 0, 20);
        range(opening, 0, 600);
        range(closing, opening, 600);
        range(stay, 0, 30);
        state(s.shops.size() < 7);
        act();
        s.shops.add(new int[] {x, y, opening, closing, stay});
        return s.shops.size() - 1;
    }

    private int walk(int begin, List<Integer> way) {
        int minute = begin;
        int x = 0;
        int y = 0;
        for (int number : way) {
            int[] shop = s.shops.get(number);
            minute += Math.abs(x - shop[0]) + Math.abs(y - shop[1]);
            if (minute > shop[3]) {
                return -1;
            }
            minute = Math.max(minute, shop[2]) + shop[4];
            x = shop[0];
            y = shop[1];
        }
        return minute + x + y;
    }

    /** All orders of the numbers, lower numbers first. */
    private static void orders(List<Integer> left, List<Integer> done, List<List<Integer>> found) {
        if (left.isEmpty()) {
            found.add(new ArrayList<>(done));
        }
        for (int i = 0; i < left.size(); i++) {
            List<Integer> rest = new ArrayList<>(left);
            done.add(rest.remove(i));
            orders(rest, done, found);
            done.remove(done.size() - 1);
        }
    }

    private static List<List<Integer>> ordersOf(int set) {
        List<Integer> numbers = new ArrayList<>();
        for (int i = 0; i < 31; i++) {
            if ((set >> i & 1) != 0) {
                numbers.add(i);
            }
        }
        List<List<Integer>> found = new ArrayList<>();
        orders(numbers, new ArrayList<>(), found);
        return found;
    }

    private List<Integer> bestWay(int begin) {
        List<Integer> best = null;
        for (List<Integer> way : ordersOf((1 << s.shops.size()) - 1)) {
            int back = walk(begin, way);
            if (back >= 0 && (best == null || back < walk(begin, best))) {
                best = way;
            }
        }
        if (best == null) {
            throw new NoSuchElementException();
        }
        return best;
    }

    int comesBack(int begin) {
        range(begin, 0, 600);
        return walk(begin, bestWay(begin));
    }

    int shopOf(int begin, int index) {
        index(index >= 0 && index < s.shops.size());
        range(begin, 0, 600);
        return bestWay(begin).get(index);
    }

    int wayBack(int begin, int way) {
        range(begin, 0, 600);
        for (List<Integer> order : ordersOf((1 << s.shops.size()) - 1)) {
            int number = 0;
            for (int shop : order) {
                number = number * 10 + shop;
            }
            if (number == way) {
                return walk(begin, order);
            }
        }
        throw new IllegalArgumentException();
    }

    private int price(List<Integer> row) {
        int price = 0;
        for (int i = 1; i < row.size(); i++) {
            for (int allergen = 0; allergen < 4; allergen++) {
                boolean first = (s.recipes.get(row.get(i - 1)).allergens >> allergen & 1) == 1;
                boolean second = (s.recipes.get(row.get(i)).allergens >> allergen & 1) == 1;
                price += first && !second ? "3524".charAt(allergen) - '0' : 0;
            }
        }
        return price;
    }

    private List<Integer> bestRow(int set) {
        if (set < 0 || set >> s.recipes.size() != 0) {
            throw new IllegalArgumentException();
        }
        List<Integer> best = null;
        for (List<Integer> row : ordersOf(set)) {
            if (best == null || price(row) < price(best)) {
                best = row;
            }
        }
        return best;
    }

    int cleaning(int set) {
        return price(bestRow(set));
    }

    int rowAt(int set, int index) {
        List<Integer> row = bestRow(set);
        index(index >= 0 && index < row.size());
        return row.get(index);
    }

    int book(int what) {
        range(what, 0, 6);
        int[] books = {s.cameIn, s.sold, s.thrown, 0, 0, 0, 0};
        for (int grams : s.store) {
            books[3] += grams;
        }
        for (Dough d : s.doughs) {
            if (d.state <= 2) {
                books[d.state == 2 ? 5 : 4] += grams(d);
            }
        }
        for (Recipe r : s.recipes) {
            for (int pieces : r.breads) {
                books[6] += pieces * r.piece;
            }
        }
        return books[what];
    }

    int type(long bytes) {
        StringBuilder added = new StringBuilder();
        for (byte b : java.nio.ByteBuffer.allocate(8).putLong(bytes).array()) {
            if (b != 0) {
                range(b, 32, 126);
                added.append((char) b);
            }
        }
        state(text.length() + added.length() <= 80);
        text += added;
        return text.length();
    }

    int fault() {
        return faultOf(text);
    }

    int undo() {
        state(!past.isEmpty());
        s = past.removeLast();
        return past.size();
    }

    double meanAge() {
        double ages = 0;
        double number = 0;
        for (Recipe r : s.recipes) {
            for (int age = 0; age < 4; age++) {
                ages += age * r.breads[age];
                number += r.breads[age];
            }
        }
        return number == 0 ? 0.0 : ages / number;
    }

    float thrownShare() {
        return s.cameIn == 0 ? 0.0f : (float) s.thrown / (float) s.cameIn;
    }

    long checksum() {
        List<Integer> all = new ArrayList<>();
        all.add(s.tick);
        for (int grams : s.store) {
            all.add(grams);
        }
        for (Dough d : s.doughs) {
            all.add(d.state);
            all.add(d.points);
        }
        for (Recipe r : s.recipes) {
            for (int pieces : r.breads) {
                all.add(pieces);
            }
        }
        long c = 17;
        for (int number : all) {
            c = 31 * c + number;
        }
        return c;
    }
}
