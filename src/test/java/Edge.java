/** A call with one number that has bounds; each try is at a bakery of its own. */
final class Edge {
    interface Making {
        Bakery made();
    }

    interface Asked {
        Object of(Bakery bakery, int number);
    }

    private final Due due;
    private final String call;
    private final Making making;
    private final Asked asked;

    Edge(Due due, String call, Making making, Asked asked) {
        this.due = due;
        this.call = call;
        this.making = making;
        this.asked = asked;
    }

    Edge takes(int number, Object want) {
        Bakery bakery = making.made();
        due.is(call + " with " + number, want, () -> asked.of(bakery, number));
        return this;
    }

    /** Nothing is different behind a refused call. */
    Edge refuses(Class<? extends RuntimeException> kind, int... numbers) {
        for (int number : numbers) {
            Bakery bakery = making.made();
            due.refuses(bakery, call + " with " + number, kind, () -> asked.of(bakery, number));
        }
        return this;
    }

    /** The next numbers on either side, and those furthest away, which wrap around when counted with. */
    Edge refusesOutside(Class<? extends RuntimeException> kind, int least, int greatest) {
        return refuses(kind, least - 1, greatest + 1, Integer.MIN_VALUE, Integer.MAX_VALUE);
    }
}
