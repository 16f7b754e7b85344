/** Promises 10 to 17: doughs and time. */
public final class DoughTest {
    private static final Due due = new Due();

    public static void main(String[] args) {
        mixes();
        refusesToMix();
        mixesTwenty();
        risesByWarmth();
        refusesTime();
        reachesTheLastTick();
        shapes();
        refusesToShape();
        tells();
        throwsAway();
        due.end();
    }

    private static void mixes() {
        Bakery b = new Bakery();
        b.addRecipe(90, 5, 9, 110, 2);
        b.setPart(0, 0, 7);
        b.setPart(0, 4, 4);
        b.receive(0, 229);
        b.receive(4, 131);
        due.is("mix(0, 4)", 0, () -> b.mix(0, 4));
        due.is("store(0)", 0, () -> b.store(0));
        due.is("store(4)", 0, () -> b.store(4));
        due.is("book(4)", 360, () -> b.book(4));
        due.is("state", OvenRound.RISING, () -> b.doughAt(0, 3));
        due.is("points", 0, () -> b.doughAt(0, 2));
        b.receive(0, 57);
        b.receive(4, 32);
        due.refuses(b, "one gram of water too little", Due.STATE, () -> b.mix(0, 1));
        b.receive(4, 1);
        due.is("mix(0, 1)", 1, () -> b.mix(0, 1));
        b.receive(0, 56);
        b.receive(4, 100);
        due.refuses(b, "one gram of flour too little", Due.STATE, () -> b.mix(0, 1));
        due.is("doughCount", 2, () -> b.doughCount());
    }

    private static void refusesToMix() {
        Bakery b = Due.withRecipe(50, 5, 9, 110);
        b.addRecipe(50, 5, 9, 110, 0);
        due.refuses(b, "mix(2, 0)", Due.INDEX, () -> b.mix(2, 0));
        due.refuses(b, "mix(-1, 1)", Due.INDEX, () -> b.mix(-1, 1));
        due.refuses(b, "mix(0, 0)", Due.ARGUMENT, () -> b.mix(0, 0));
        due.refuses(b, "mix(0, 41)", Due.ARGUMENT, () -> b.mix(0, 41));
        due.refuses(b, "mix(1, 41)", Due.ARGUMENT, () -> b.mix(1, 41));
        due.refuses(b, "mix(1, 1) without parts", Due.STATE, () -> b.mix(1, 1));
        due.is("mix(0, 40)", 0, () -> b.mix(0, 40));
        due.is("its grams", 2000, () -> b.doughAt(0, 4));
    }

    private static void mixesTwenty() {
        Bakery b = Due.withRecipe(50, 5, 9, 110);
        for (int i = 0; i < 20; i++) {
            int number = i;
            due.is("mix", number, () -> b.mix(0, 1));
        }
        b.throwAway(3);
        due.is("doughCount", 20, () -> b.doughCount());
        due.refuses(b, "dough 20", Due.STATE, () -> b.mix(0, 1));
        due.refuses(b, "dough 20 of 41 pieces", Due.ARGUMENT, () -> b.mix(0, 41));
    }

    private static void risesByWarmth() {
        int[] gains = {0, 1, 2, 4, 6, 3};
        Bakery b = Due.withRecipe(50, 200, 200, 110);
        b.mix(0, 1);
        int before = 2;
        int points = 0;
        for (int warmth = 0; warmth <= 5; warmth++) {
            int asked = warmth;
            due.is("setWarmth " + warmth, before, () -> b.setWarmth(asked));
            before = warmth;
            points += 7 * gains[warmth];
            b.pass(7);
            due.is("points", points, () -> b.doughAt(0, 2));
        }
        due.is("now", 42, () -> b.now());
        for (int warmth : new int[] {-1, 6, Integer.MIN_VALUE, Integer.MAX_VALUE}) {
            due.refuses(b, "setWarmth " + warmth, Due.ARGUMENT, () -> b.setWarmth(warmth));
        }
    }

    private static void refusesTime() {
        Bakery b = new Bakery();
        due.is("pass(1)", 1, () -> b.pass(1));
        due.is("pass(200)", 201, () -> b.pass(200));
        for (int ticks : new int[] {0, -1, 201, Integer.MIN_VALUE, Integer.MAX_VALUE}) {
            due.refuses(b, "pass " + ticks, Due.ARGUMENT, () -> b.pass(ticks));
        }
        due.is("now", 201, () -> b.now());
    }

    private static void reachesTheLastTick() {
        Bakery b = Due.withRecipe(50, 1, 200, 110);
        b.mix(0, 1);
        b.setWarmth(4);
        for (int i = 0; i < 499; i++) {
            b.pass(200);
        }
        due.is("now", 99800, () -> b.now());
        due.is("pass(199)", 99999, () -> b.pass(199));
        due.refuses(b, "pass(2)", Due.STATE, () -> b.pass(2));
        due.refuses(b, "pass(201)", Due.ARGUMENT, () -> b.pass(201));
        due.is("pass(1)", 100000, () -> b.pass(1));
        due.refuses(b, "pass(1)", Due.STATE, () -> b.pass(1));
        due.is("points", 600000, () -> b.doughAt(0, 2));
    }

    private static void shapes() {
        Bakery b = Due.withRecipe(50, 5, 9, 110);
        b.setWarmth(1);
        for (int i = 0; i < 3; i++) {
            b.mix(0, 1);
        }
        b.pass(4);
        due.refuses(b, "shape with 4 points", Due.STATE, () -> b.shape(0));
        b.pass(1);
        due.is("shape with 5", 5, () -> b.shape(0));
        due.is("state", OvenRound.WAITING, () -> b.doughAt(0, 3));
        due.is("shaped at", 5, () -> b.doughAt(0, 5));
        due.is("the other's state", OvenRound.RISING, () -> b.doughAt(1, 3));
        b.pass(4);
        due.is("points of a shaped one", 5, () -> b.doughAt(0, 2));
        due.is("shape with 9", 9, () -> b.shape(1));
        due.is("shaped at", 9, () -> b.doughAt(1, 5));
        b.pass(1);
        due.refuses(b, "shape with 10", Due.STATE, () -> b.shape(2));
    }

    private static void refusesToShape() {
        Bakery b = Due.withRecipe(50, 2, 9, 110);
        b.mix(0, 1);
        b.mix(0, 1);
        b.pass(1);
        b.shape(0);
        b.throwAway(1);
        due.refuses(b, "shape a WAITING one", Due.STATE, () -> b.shape(0));
        due.refuses(b, "shape a THROWN one", Due.STATE, () -> b.shape(1));
        due.refuses(b, "shape(2)", Due.INDEX, () -> b.shape(2));
        due.refuses(b, "shape(-1)", Due.INDEX, () -> b.shape(-1));
    }

    private static void tells() {
        Bakery b = Due.withRecipe(50, 2, 9, 110);
        b.addRecipe(70, 2, 9, 110, 0);
        b.setPart(1, 0, 3);
        b.mix(0, 1);
        b.mix(1, 3);
        b.pass(3);
        int[] want = {1, 3, 6, OvenRound.RISING, 210, OvenRound.NONE, OvenRound.NONE};
        for (int what = 0; what < 7; what++) {
            int asked = what;
            due.is("doughAt(1, " + what + ")", want[what], () -> b.doughAt(1, asked));
        }
        due.refuses(b, "doughAt(2, 7)", Due.INDEX, () -> b.doughAt(2, 7));
        due.refuses(b, "doughAt(-1, 0)", Due.INDEX, () -> b.doughAt(-1, 0));
        due.refuses(b, "doughAt(0, 7)", Due.ARGUMENT, () -> b.doughAt(0, 7));
        due.refuses(b, "doughAt(0, -1)", Due.ARGUMENT, () -> b.doughAt(0, -1));
    }

    private static void throwsAway() {
        Bakery b = Due.withRecipe(50, 2, 9, 20 + 80);
        b.mix(0, 1);
        b.mix(0, 2);
        b.mix(0, 3);
        b.pass(1);
        b.shape(1);
        due.is("throw a RISING one", 50, () -> b.throwAway(0));
        due.is("throw a WAITING one", 100, () -> b.throwAway(1));
        due.is("book(2)", 150, () -> b.book(2));
        due.is("state", OvenRound.THROWN, () -> b.doughAt(1, 3));
        due.refuses(b, "throw a THROWN one", Due.STATE, () -> b.throwAway(1));
        due.refuses(b, "throwAway(3)", Due.INDEX, () -> b.throwAway(3));
        due.refuses(b, "throwAway(-1)", Due.INDEX, () -> b.throwAway(-1));
        b.shape(2);
        b.setHeat(100);
        b.pass(19);
        b.bake(2);
        due.refuses(b, "throw a BAKING one", Due.STATE, () -> b.throwAway(2));
        b.pass(10);
        due.refuses(b, "throw a BAKED one", Due.STATE, () -> b.throwAway(2));
        due.is("points of a THROWN one", 2, () -> b.doughAt(0, 2));
    }
}
