import java.util.ArrayList;
import java.util.List;

/** Promises 44 and 45: the acts that are remembered. */
public final class UndoTest {
    private static final Due due = new Due();

    public static void main(String[] args) {
        undoesEachAct();
        remembersEight();
        keepsTheText();
        remembersActsWithoutChange();
        forgetsWhatIsUndone();
        refuses();
        due.end();
    }

    private interface Act {
        void on(Bakery b);
    }

    /** A bakery in which each act below changes something. */
    private static Bakery busy() {
        Bakery b = new Bakery();
        b.addRecipe(50, 2, 100, 100, 1);
        b.addRecipe(60, 2, 100, 100, 2);
        b.setPart(0, 0, 3);
        b.setPart(1, 4, 3);
        b.receive(0, 5000);
        b.receive(4, 5000);
        b.setHeat(100);
        b.pass(15);
        b.mix(0, 4);
        b.mix(0, 5);
        b.mix(1, 6);
        b.pass(5);
        b.bake(0);
        b.pass(10);
        b.endDay();
        b.shape(1);
        b.note(0, 7);
        b.addShop(1, 2, 3, 400, 5);
        return b;
    }

    private static void undoesEachAct() {
        List<Act> acts = List.of(b -> b.receive(3, 7), b -> b.addRecipe(70, 1, 2, 110, 3), b -> b.setWait(0, 0),
                b -> b.setPart(0, 4, 9), b -> b.readParts(0), b -> b.mix(1, 3), b -> b.setWarmth(0),
                b -> b.pass(20), b -> b.shape(2), b -> b.setHeat(300), b -> b.setDecks(1), b -> b.bake(1),
                b -> b.throwAway(1), b -> b.throwAway(2), b -> b.endDay(), b -> b.sell(0, 3), b -> b.crumble(0),
                b -> b.setFlour(2, 1, 2, 3), b -> b.note(0, 8), b -> b.addShop(4, 4, 4, 500, 4), b -> b.bake(2));
        for (int i = 0; i < acts.size(); i++) {
            Bakery b = busy();
            b.type(0x373a32);
            if (i == 4) {
                b.type(0x20);
            }
            // With readParts() the text is empty behind it, so it is typed again to compare all else.
            String before = Look.atNow(b, 400);
            acts.get(i).on(b);
            if (i == 4) {
                b.type(0x373a3220);
            }
            String behind = Look.atNow(b, 400);
            String name = "act " + i;
            due.is(name + " changes something", true, () -> !before.equals(behind));
            due.is(name + ": undo", 7, () -> b.undo());
            due.is(name + " is undone", before, () -> Look.atNow(b, 400));
        }
        hiddenActs();
    }

    /** What undo brings back of things that only acts tell. */
    private static void hiddenActs() {
        Bakery b = busy();
        b.setWait(0, 3);
        b.undo();
        due.is("wait", 20, () -> b.setWait(0, 20));
        b.setHeat(300);
        b.undo();
        b.pass(200);
        due.is("heat", 100, () -> b.heat());
        b.setDecks(1);
        b.undo();
        due.is("decks", 2, () -> b.setDecks(2));
        b.setWarmth(5);
        b.undo();
        due.is("warmth", 2, () -> b.setWarmth(2));
        b.setFlour(1, 5, 6, 7);
        b.undo();
        due.is("cost", 50, () -> b.setFlour(1, 100, 50, 100));
    }

    private static void remembersEight() {
        Bakery b = new Bakery();
        List<Integer> stores = new ArrayList<>();
        for (int i = 1; i <= 21; i++) {
            stores.add(b.store(2));
            b.receive(2, i);
            int want = Math.min(i, 8);
            due.is("actCount behind " + i, want, () -> b.actCount());
        }
        for (int left = 7; left >= 0; left--) {
            int want = left;
            due.is("undo", want, () -> b.undo());
            due.is("actCount", want, () -> b.actCount());
            due.is("store(2)", stores.get(13 + left), () -> b.store(2));
        }
        due.refuses(b, "undo of the ninth", Due.STATE, () -> b.undo());
        due.is("book(0)", stores.get(13), () -> b.book(0));
    }

    private static void keepsTheText() {
        Bakery b = new Bakery();
        b.addRecipe(50, 1, 1, 100, 0);
        Due.type(b, "0:5");
        due.is("readParts", 5, () -> b.readParts(0));
        Due.type(b, "1:234x");
        due.is("undo", 1, () -> b.undo());
        due.is("the text stays", 5, () -> b.fault());
        due.is("the text stays", 6, () -> b.type(0));
        due.is("the parts do not", 0, () -> b.setPart(0, 0, 0));
    }

    private static void remembersActsWithoutChange() {
        Bakery b = Due.withRecipe(50, 1, 1, 100);
        List<Act> acts = List.of(x -> x.endDay(), x -> x.crumble(0), x -> x.setWarmth(2), x -> x.setHeat(20),
                x -> x.setDecks(2));
        int number = 3;
        for (Act act : acts) {
            act.on(b);
            number++;
            int want = number;
            due.is("actCount", want, () -> b.actCount());
        }
        due.is("undo", 7, () -> b.undo());
        b.now();
        b.fault();
        b.inPlan();
        b.type(0x30);
        b.errors();
        b.checksum();
        due.is("questions are no acts", 7, () -> b.actCount());
    }

    /** A second life behind undo leaves nothing of the first one. */
    private static void forgetsWhatIsUndone() {
        Bakery b = Due.withRecipe(50, 1, 99, 100);
        b.addRecipe(70, 5, 6, 200, 15);
        b.setPart(1, 3, 8);
        b.setWait(1, 4);
        b.note(1, 9);
        for (int i = 0; i < 4; i++) {
            b.undo();
        }
        due.is("recipeCount", 1, () -> b.recipeCount());
        due.refuses(b, "the undone recipe", Due.INDEX, () -> b.setWait(1, 4));
        due.is("addRecipe", 1, () -> b.addRecipe(60, 1, 99, 100, 0));
        due.is("its wait", 20, () -> b.setWait(1, 20));
        due.is("its parts", 0, () -> b.setPart(1, 3, 0));
        due.is("its loss", 0, () -> b.loss(1, 50, 1, 1));
        due.is("its notes", 1, () -> b.note(1, 20));
        b.mix(0, 1);
        b.pass(1);
        b.shape(0);
        b.undo();
        b.undo();
        b.undo();
        due.is("mix", 0, () -> b.mix(0, 2));
        due.is("its points", 0, () -> b.doughAt(0, 2));
        due.is("its pieces", 2, () -> b.doughAt(0, 1));
        due.is("its state", OvenRound.RISING, () -> b.doughAt(0, 3));
        due.is("shaped at", OvenRound.NONE, () -> b.doughAt(0, 5));
        b.addShop(9, 9, 0, 0, 9);
        b.undo();
        b.addShop(1, 1, 0, 600, 1);
        due.is("comesBack(0)", 5, () -> b.comesBack(0));
    }

    private static void refuses() {
        Bakery b = new Bakery();
        due.refuses(b, "undo at first", Due.STATE, () -> b.undo());
        b.endDay();
        b.undo();
        due.refuses(b, "undo of nothing", Due.STATE, () -> b.undo());
    }
}
