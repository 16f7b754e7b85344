import java.lang.reflect.Method;
import java.util.Arrays;
import java.util.Comparator;

/** Compares answers with those that are due, prints the wrong ones and ends the program by them. */
final class Due {
    interface Call {
        Object answer();
    }

    interface Question {
        Object of(Bakery bakery);
    }

    static final Class<? extends RuntimeException> INDEX = IndexOutOfBoundsException.class;
    static final Class<? extends RuntimeException> ARGUMENT = IllegalArgumentException.class;
    static final Class<? extends RuntimeException> STATE = IllegalStateException.class;
    static final Class<? extends RuntimeException> ELEMENT = java.util.NoSuchElementException.class;

    private int wrong;
    private int asked;

    void is(String call, Object want, Call made) {
        asked++;
        Object got = answerOf(made);
        if (!got.equals(want)) {
            wrong++;
            System.out.println(call + " answered " + got + ", due is " + want);
        }
    }

    /** The call throws just this class, and nothing that can be asked is different then. */
    void refuses(Bakery bakery, String call, Class<? extends RuntimeException> kind, Call made) {
        // One call is made between the two looks, and both must ask the same.
        int questions = bakery.left() - 1;
        String before = Look.at(bakery, questions);
        is(call, thrown(kind), made);
        is("the bakery behind " + call, before, () -> Look.at(bakery, questions));
    }

    void refuses(Class<? extends RuntimeException> kind, String call, Bakery bakery, Question question) {
        refuses(bakery, call, kind, () -> question.of(bakery));
    }

    void is(String call, Object want, Bakery bakery, Question question) {
        is(call, want, () -> question.of(bakery));
    }

    Edge edge(String call, Edge.Making making, Edge.Asked number) {
        return new Edge(this, call, making, number);
    }

    static String thrown(Class<? extends RuntimeException> kind) {
        return "throws " + kind.getSimpleName();
    }

    static Object answerOf(Call made) {
        try {
            return made.answer();
        } catch (RuntimeException e) {
            return thrown(e.getClass());
        }
    }

    /** Runs each test of a class, so that none is forgotten: each method without a parameter, by its name. */
    void runAll(Class<?> tests) {
        Method[] methods = tests.getDeclaredMethods();
        Arrays.sort(methods, Comparator.comparing(Method::getName));
        for (Method method : methods) {
            if (method.getParameterCount() == 0 && method.getReturnType() == void.class) {
                run(method);
            }
        }
        end();
    }

    private static void run(Method test) {
        try {
            test.setAccessible(true);
            test.invoke(null);
        } catch (ReflectiveOperationException e) {
            throw new AssertionError(test.getName() + " did not come to its end", e);
        }
    }

    void end() {
        System.out.println(wrong + " of " + asked + " answers are wrong");
        if (wrong > 0 || asked == 0) {
            System.exit(1);
        }
    }

    /** A bakery with one recipe (of flour 0 alone, one part) and 200000 grams of that flour. */
    static Bakery withRecipe(int piece, int low, int high, int heat) {
        Bakery bakery = new Bakery();
        bakery.addRecipe(piece, low, high, heat, 0);
        bakery.setPart(0, 0, 1);
        bakery.receive(0, 200000);
        return bakery;
    }

    static void type(Bakery bakery, String text) {
        for (int from = 0; from < text.length(); from += 8) {
            long bytes = 0;
            for (int i = from; i < Math.min(text.length(), from + 8); i++) {
                bytes = bytes << 8 | text.charAt(i);
            }
            bakery.type(bytes);
        }
    }
}
