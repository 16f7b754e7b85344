import java.lang.reflect.Constructor;
import java.lang.reflect.Field;
import java.lang.reflect.Method;
import java.lang.reflect.Modifier;
import java.util.TreeSet;

/** The public face: the document's constants, constructor and methods, and nothing else. */
public final class FaceTest {
    private static final String[] METHODS = {
        "int receive(int,int) IAS", "int store(int) I", "int addRecipe(int,int,int,int,int) AS",
        "int setWait(int,int) IA", "int setPart(int,int,int) IA", "int readParts(int) IA",
        "int amount(int,int,int) IAS", "int recipeCount() ", "int mix(int,int) IAS", "int setWarmth(int) A",
        "int pass(int) AS", "int now() ", "int shape(int) IS", "int doughAt(int,int) IA",
        "int throwAway(int) IS", "int doughCount() ", "int setHeat(int) A", "int heat() ",
        "int setDecks(int) A", "int bake(int) IS", "int planned(int) I", "int inPlan() ", "int late() ",
        "int breads(int,int) IA", "int endDay() ", "int sell(int,int) IAS", "int crumble(int) I",
        "int setFlour(int,int,int,int) IA", "int mixCost(int,int,boolean) AN",
        "int mixShare(int,int,int,boolean) IAN", "int note(int,int) IAS", "int bestNumber(int,int,int) IAN",
        "int loss(int,int,int,int) IA", "int addShop(int,int,int,int,int) AS", "int comesBack(int) AN",
        "int shopOf(int,int) IAN", "int wayBack(int,int) A", "int cleaning(int) A", "int rowAt(int,int) AI",
        "int book(int) A", "int type(long) AS", "int fault() ", "int undo() S", "int actCount() ",
        "double meanAge() ", "float thrownShare() ", "long checksum() ", "int errors() "};

    public static void main(String[] args) {
        Due due = new Due();
        due.is("the methods", new TreeSet<>(java.util.List.of(METHODS)).toString(), () -> methods().toString());
        due.is("the constants", "[BAKED=3, BAKING=2, NONE=-1, RISING=0, THROWN=4, WAITING=1]",
                () -> constants().toString());
        due.is("the constructors", 1, () -> constructors());
        due.is("the class is public and final", true, () -> Modifier.isPublic(OvenRound.class.getModifiers())
                && Modifier.isFinal(OvenRound.class.getModifiers()));
        for (Class<?> inside : OvenRound.class.getDeclaredClasses()) {
            due.is(inside + " is hidden", false, () -> Modifier.isPublic(inside.getModifiers())
                    || Modifier.isProtected(inside.getModifiers()));
        }
        due.end();
    }

    private static TreeSet<String> methods() {
        TreeSet<String> found = new TreeSet<>();
        for (Method method : OvenRound.class.getDeclaredMethods()) {
            if (Modifier.isPrivate(method.getModifiers()) || method.isSynthetic()) {
                continue;
            }
            StringBuilder line = new StringBuilder();
            line.append(method.getReturnType()).append(' ').append(method.getName()).append('(');
            String comma = "";
            for (Class<?> type : method.getParameterTypes()) {
                line.append(comma).append(type);
                comma = ",";
            }
            line.append(") ");
            for (Class<?> thrown : method.getExceptionTypes()) {
                line.append(thrown.getSimpleName().replace("Illegal", "").charAt(0));
            }
            found.add(line.toString());
        }
        return found;
    }

    private static TreeSet<String> constants() {
        TreeSet<String> found = new TreeSet<>();
        for (Field field : OvenRound.class.getDeclaredFields()) {
            if (Modifier.isPrivate(field.getModifiers()) || field.isSynthetic()) {
                continue;
            }
            String name = field.getName() + (Modifier.isFinal(field.getModifiers()) ? "=" : " is not final ");
            try {
                found.add(name + field.getInt(null));
            } catch (IllegalAccessException e) {
                found.add(name + "?");
            }
        }
        return found;
    }

    private static int constructors() {
        int number = 0;
        for (Constructor<?> made : OvenRound.class.getDeclaredConstructors()) {
            number += Modifier.isPublic(made.getModifiers()) && made.getParameterCount() == 0 ? 1 : 100;
        }
        return number;
    }
}
