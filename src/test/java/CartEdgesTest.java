/** The edges that the document names in "Terms", section 9, and in the promises 35 to 38. */
public final class CartEdgesTest {
    private static final Due due = new Due();

    public static void main(String[] args) {
        due.runAll(CartEdgesTest.class);
    }

    private static int[] shop(int x, int y, int opening, int closing, int stay) {
        return new int[] {x, y, opening, closing, stay};
    }

    /** So many shops at the bakery's own place, open all day. */
    private static Bakery atHome(int number) {
        int[][] shops = new int[number][];
        for (int i = 0; i < number; i++) {
            shops[i] = shop(0, 0, 0, 600, 0);
        }
        return Made.withShops(shops);
    }

    private static void goes(String what, Bakery b, int begin, int back, int... way) {
        due.is(what + ": comesBack", back, () -> b.comesBack(begin));
        int number = 0;
        for (int i = 0; i < way.length; i++) {
            int index = i;
            due.is(what + ": shopOf " + i, way[i], () -> b.shopOf(begin, index));
            number = 10 * number + way[i];
        }
        int told = number;
        due.is(what + ": wayBack", back, () -> b.wayBack(begin, told));
    }

    private static void goesNowhere(String what, Bakery b, int begin) {
        due.refuses(Due.ELEMENT, what + ": comesBack", b, x -> x.comesBack(begin));
        due.refuses(Due.ELEMENT, what + ": shopOf", b, x -> x.shopOf(begin, 0));
    }

    /** Promise 35, x: "0 to 20". */
    private static void addsShopsAtX() {
        due.edge("addShop(x, 2, 0, 600, 0)", Bakery::new, (b, x) -> b.addShop(x, 2, 0, 600, 0)).takes(0, 0)
                .takes(20, 0).refusesOutside(Due.ARGUMENT, 0, 20);
        goes("x 20", Made.withShops(shop(20, 0, 0, 600, 0)), 0, 40, 0);
    }

    /** Promise 35, y: "0 to 20". */
    private static void addsShopsAtY() {
        due.edge("addShop(2, y, 0, 600, 0)", Bakery::new, (b, y) -> b.addShop(2, y, 0, 600, 0)).takes(0, 0)
                .takes(20, 0).refusesOutside(Due.ARGUMENT, 0, 20);
        goes("y 20", Made.withShops(shop(0, 20, 0, 600, 0)), 0, 40, 0);
    }

    /** Promise 35, opening: "0 to 600". */
    private static void addsShopsThatOpen() {
        due.edge("addShop(2, 2, opening, 600, 0)", Bakery::new, (b, opening) -> b.addShop(2, 2, opening, 600, 0))
                .takes(0, 0).takes(600, 0).refusesOutside(Due.ARGUMENT, 0, 600);
        due.edge("addShop(2, 2, opening, opening, 0)", Bakery::new, (b, minute) -> b.addShop(2, 2, minute, minute, 0))
                .takes(0, 0).takes(600, 0).refusesOutside(Due.ARGUMENT, 0, 600);
    }

    /** Promise 35, closing: "opening to 600". */
    private static void addsShopsThatClose() {
        due.edge("addShop(2, 2, 30, closing, 0)", Bakery::new, (b, closing) -> b.addShop(2, 2, 30, closing, 0))
                .takes(30, 0).takes(31, 0).takes(600, 0).refuses(Due.ARGUMENT, 0)
                .refusesOutside(Due.ARGUMENT, 30, 600);
        due.edge("addShop(2, 2, 600, closing, 0)", Bakery::new, (b, closing) -> b.addShop(2, 2, 600, closing, 0))
                .takes(600, 0).refusesOutside(Due.ARGUMENT, 600, 600);
    }

    /** Promise 35, stay: "0 to 30". */
    private static void addsShopsToStayAt() {
        due.edge("addShop(2, 2, 0, 600, stay)", Bakery::new, (b, stay) -> b.addShop(2, 2, 0, 600, stay)).takes(0, 0)
                .takes(30, 0).refusesOutside(Due.ARGUMENT, 0, 30);
        goes("stay 30", Made.withShops(shop(2, 2, 0, 600, 30)), 0, 38, 0);
    }

    /** Terms 9: "There are at most 7 shops, numbered from 0"; promise 35: "if there are 7 shops". */
    private static void addsSevenShops() {
        Bakery b = new Bakery();
        for (int number = 0; number < 7; number++) {
            int want = number;
            due.is("shop " + number, want, () -> b.addShop(2, 2, 0, 600, 0));
        }
        due.refuses(Due.STATE, "the shop 7", b, x -> x.addShop(2, 2, 0, 600, 0));
        b.undo();
        due.is("the shop 6 again behind undo", 6, () -> b.addShop(2, 2, 0, 600, 0));
    }

    /** Promise 35, with Terms 13: a number out of range is ahead of the 7 shops. */
    private static void namesAWrongNumberAheadOfSevenShops() {
        due.refuses(Due.ARGUMENT, "x 21", atHome(7), b -> b.addShop(21, 2, 0, 600, 0));
        due.refuses(Due.ARGUMENT, "a closing ahead of the opening", atHome(7), b -> b.addShop(2, 2, 9, 8, 0));
        due.refuses(Due.ARGUMENT, "stay 31", atHome(7), b -> b.addShop(2, 2, 0, 600, 31));
    }

    /** Promise 36, begin: "0 to 600". */
    private static void comesBackFromABegin() {
        due.edge("comesBack(begin)", () -> atHome(1), (b, begin) -> b.comesBack(begin)).takes(0, 0).takes(600, 600)
                .refusesOutside(Due.ARGUMENT, 0, 600);
    }

    /** Promise 36: "begin without shops". */
    private static void comesBackAtOnceWithoutShops() {
        due.edge("comesBack(begin) without shops", Bakery::new, (b, begin) -> b.comesBack(begin)).takes(0, 0)
                .takes(1, 1).takes(600, 600).refusesOutside(Due.ARGUMENT, 0, 600);
        Bakery b = atHome(1);
        b.undo();
        due.is("no shop any more", 5, () -> b.comesBack(5));
    }

    /** Promise 36: "NoSuchElementException if no way meets all hours": a minute makes the difference. */
    private static void meetsAllHoursOrNone() {
        goes("just in time", Made.withShops(shop(5, 0, 0, 10, 0), shop(0, 5, 0, 20, 0)), 5, 25, 0, 1);
        goesNowhere("a minute later", Made.withShops(shop(5, 0, 0, 10, 0), shop(0, 5, 0, 20, 0)), 6);
        goesNowhere("one shop of two", Made.withShops(shop(5, 0, 0, 600, 0), shop(20, 20, 0, 39, 0)), 0);
        goesNowhere("at the minute 600", Made.withShops(shop(1, 0, 0, 600, 0)), 600);
        goes("at the minute 599", Made.withShops(shop(1, 0, 0, 600, 0)), 599, 601, 0);
    }

    /** Promise 36, with Terms 13: a begin out of range is ahead of no way. */
    private static void namesAWrongBeginAheadOfNoWay() {
        Bakery b = Made.withShops(shop(20, 20, 0, 39, 0));
        due.refuses(Due.ARGUMENT, "comesBack(601)", b, x -> x.comesBack(601));
        due.refuses(Due.ARGUMENT, "comesBack(-1)", b, x -> x.comesBack(-1));
    }

    /** Terms 9: "as many minutes as the differences of x and of y together", in each direction. */
    private static void takesTheDifferencesOfBoth() {
        goes("there and back", Made.withShops(shop(20, 20, 0, 600, 0)), 0, 80, 0);
        Bakery b = Made.withShops(shop(3, 9, 0, 600, 0), shop(8, 2, 0, 600, 0));
        due.is("0, 1", 12 + 12 + 10, () -> b.wayBack(0, 1));
        due.is("1, 0", 10 + 12 + 12, () -> b.wayBack(0, 10));
        goes("a shop at the bakery", atHome(1), 7, 7, 0);
    }

    /** Terms 9: "at a shop that it reaches ahead of its opening it waits": a minute ahead, at it and behind it. */
    private static void waitsForTheOpening() {
        Bakery b = Made.withShops(shop(3, 4, 20, 30, 6));
        goes("13 ahead", b, 0, 33, 0);
        goes("a minute ahead", b, 12, 33, 0);
        goes("at the opening", b, 13, 33, 0);
        goes("a minute behind", b, 14, 34, 0);
        goes("till the last opening", Made.withShops(shop(0, 0, 600, 600, 30)), 0, 630, 0);
    }

    /** Terms 9: "it must not reach it behind its closing": at it and a minute behind. */
    private static void reachesItByTheClosing() {
        Bakery b = Made.withShops(shop(3, 4, 20, 30, 6));
        goes("at the closing", b, 23, 43, 0);
        goesNowhere("a minute behind", b, 24);
        due.is("wayBack a minute behind", OvenRound.NONE, () -> b.wayBack(24, 0));
        Bakery zero = Made.withShops(shop(0, 0, 0, 0, 0));
        goes("a closing of 0", zero, 0, 0, 0);
        goesNowhere("a minute behind a closing of 0", zero, 1);
    }

    /** Terms 9: the closing is nothing to the stay: "it goes on when the stay is over". */
    private static void staysBehindTheClosing() {
        goes("stays till 630", Made.withShops(shop(0, 0, 0, 600, 30)), 600, 630, 0);
        goes("stays behind a closing of 20", Made.withShops(shop(3, 4, 20, 20, 30)), 0, 57, 0);
        goesNowhere("too late for the next one", Made.withShops(shop(0, 0, 0, 20, 30), shop(0, 0, 0, 29, 30)), 0);
        goes("in time for the next one", Made.withShops(shop(0, 0, 0, 20, 30), shop(0, 0, 0, 30, 30)), 0, 60, 0, 1);
    }

    /** Terms 9: "The best way is the one that comes back earliest": a minute is enough against lower numbers. */
    private static void comesBackEarliest() {
        goes("1, 0 is a minute less", Made.withShops(shop(5, 0, 6, 600, 0), shop(0, 0, 0, 600, 1)), 0, 11, 1, 0);
        goes("0, 1 as soon as it does not matter", Made.withShops(shop(5, 0, 6, 600, 0), shop(0, 0, 0, 600, 1)), 1, 12,
                0, 1);
    }

    /** Terms 9: "of several, the one whose shops, one after the other, have the lower numbers". */
    private static void prefersLowerNumbers() {
        goes("seven at home", atHome(7), 3, 3, 0, 1, 2, 3, 4, 5, 6);
        goes("both ways round", Made.withShops(shop(9, 0, 0, 600, 0), shop(0, 9, 0, 600, 0)), 0, 36, 0, 1);
        goes("on the way there and on the way back", Made.withShops(shop(9, 0, 0, 600, 0), shop(4, 0, 0, 600, 0),
                shop(5, 0, 0, 600, 0)), 0, 18, 0, 2, 1);
        goes("the last shop closes first", Made.withShops(shop(0, 0, 0, 600, 1), shop(0, 0, 0, 600, 1),
                shop(0, 0, 0, 0, 1)), 0, 3, 2, 0, 1);
    }

    /** Terms 9: all 7 shops, whose one way that meets the hours is the last one tried. */
    private static void findsTheLastOfAllWays() {
        int[][] shops = new int[7][];
        for (int i = 0; i < 7; i++) {
            shops[i] = shop(2, 2, 0, 4 + 30 * (6 - i), 30);
        }
        Bakery b = Made.withShops(shops);
        goes("6543210", b, 0, 4 + 210 + 4, 6, 5, 4, 3, 2, 1, 0);
        due.is("wayBack of 6543201", OvenRound.NONE, () -> b.wayBack(0, 6543201));
        goesNowhere("a minute later", b, 1);
    }

    /** Promise 37, index: "from 0"; "IndexOutOfBoundsException if there are not so many shops". */
    private static void tellsOfEachShop() {
        due.edge("shopOf(0, index) without shops", Bakery::new, (b, index) -> b.shopOf(0, index))
                .refuses(Due.INDEX, 0).refusesOutside(Due.INDEX, 0, 0);
        due.edge("shopOf(0, index) of one", () -> atHome(1), (b, index) -> b.shopOf(0, index)).takes(0, 0)
                .refusesOutside(Due.INDEX, 0, 0);
        due.edge("shopOf(0, index) of seven", () -> atHome(7), (b, index) -> b.shopOf(0, index)).takes(0, 0)
                .takes(6, 6).refusesOutside(Due.INDEX, 0, 6);
    }

    /** Promise 37, begin: "0 to 600". */
    private static void tellsShopsFromABegin() {
        due.edge("shopOf(begin, 1)", () -> atHome(2), (b, begin) -> b.shopOf(begin, 1)).takes(0, 1).takes(600, 1)
                .refusesOutside(Due.ARGUMENT, 0, 600);
    }

    /** Promise 37: "NoSuchElementException if no way meets all hours": a minute makes the difference. */
    private static void tellsNoShopsOfNoWay() {
        due.edge("shopOf(begin, 1) in time for the minute 40",
                () -> Made.withShops(shop(0, 0, 0, 600, 0), shop(20, 20, 0, 40, 0)), (b, begin) -> b.shopOf(begin, 1))
                .takes(0, 1).refuses(Due.ELEMENT, 1, 600);
        due.edge("shopOf(0, index) of no way",
                () -> Made.withShops(shop(0, 0, 0, 600, 0), shop(20, 20, 0, 39, 0)), (b, index) -> b.shopOf(0, index))
                .refuses(Due.ELEMENT, 0, 1).refuses(Due.INDEX, 2);
    }

    /** Promise 37, with Terms 13: the index is ahead of the begin, the begin ahead of no way. */
    private static void namesShopFaultsInTheirOrder() {
        Bakery b = Made.withShops(shop(20, 20, 0, 39, 0));
        due.refuses(Due.INDEX, "shopOf(601, 1)", b, x -> x.shopOf(601, 1));
        due.refuses(Due.INDEX, "shopOf(-1, -1)", b, x -> x.shopOf(-1, -1));
        due.refuses(Due.INDEX, "shopOf(0, 1) of no way", b, x -> x.shopOf(0, 1));
        due.refuses(Due.INDEX, "shopOf(601, 0) without shops", new Bakery(), x -> x.shopOf(601, 0));
        due.refuses(Due.ARGUMENT, "shopOf(601, 0) of no way", b, x -> x.shopOf(601, 0));
    }

    /** Promise 38, begin: "0 to 600". */
    private static void goesAToldWayFromABegin() {
        due.edge("wayBack(begin, 1)", () -> atHome(2), (b, begin) -> b.wayBack(begin, 1)).takes(0, 0).takes(600, 600)
                .refusesOutside(Due.ARGUMENT, 0, 600);
        due.edge("wayBack(begin, 0) without shops", Bakery::new, (b, begin) -> b.wayBack(begin, 0)).takes(0, 0)
                .takes(600, 600).refusesOutside(Due.ARGUMENT, 0, 600);
    }

    /** Promise 38: "0 without shops". */
    private static void goesNoWayWithoutShops() {
        due.edge("wayBack(7, way) without shops", Bakery::new, (b, way) -> b.wayBack(7, way)).takes(0, 7)
                .refuses(Due.ARGUMENT, 10, 12, 100).refusesOutside(Due.ARGUMENT, 0, 0);
    }

    /** Promise 38: "IllegalArgumentException if .. way does not have each shop just once": one shop. */
    private static void goesToOneShop() {
        due.edge("wayBack(7, way) of one shop", () -> atHome(1), (b, way) -> b.wayBack(7, way)).takes(0, 7)
                .refuses(Due.ARGUMENT, 10, 9, 100, -10).refusesOutside(Due.ARGUMENT, 0, 0);
    }

    /** Promise 38: "one digit for each, the first one first (as 102 for 1, 0, 2, and 12 for 0, 1, 2)". */
    private static void goesToThreeShops() {
        Edge edge = due.edge("wayBack(7, way) of three shops", () -> atHome(3), (b, way) -> b.wayBack(7, way));
        for (int way : new int[] {12, 21, 102, 120, 201, 210}) {
            edge.takes(way, 7);
        }
        edge.refuses(Due.ARGUMENT, 0, 1, 2, 10, 11, 13, 20, 22, 100, 101, 112, 122, 123, 202, 211, 220, 221, 310, 321,
                1012, 1102, 1120, 2100, 10012, 12000, -12, -210).refusesOutside(Due.ARGUMENT, 12, 210);
    }

    /** Promise 38: "each shop just once": all seven, and the digits behind the last shop. */
    private static void goesToSevenShops() {
        due.edge("wayBack(7, way) of seven shops", () -> atHome(7), (b, way) -> b.wayBack(7, way)).takes(123456, 7)
                .takes(6543210, 7).takes(1023456, 7).refuses(Due.ARGUMENT, 0, 12345, 123457, 1234567, 7654321, 6543211,
                        6543217, 16543210, 10123456, 1000123456, 2000123456, 6666666, -6543210)
                .refusesOutside(Due.ARGUMENT, 123456, 6543210);
    }

    /** Promise 38: the first digit is the first shop. */
    private static void goesToTheFirstDigitFirst() {
        Bakery b = Made.withShops(shop(5, 0, 0, 5, 0), shop(0, 0, 30, 600, 0));
        due.is("0, 1", 30, () -> b.wayBack(0, 1));
        due.is("1, 0", OvenRound.NONE, () -> b.wayBack(0, 10));
    }

    /** Promise 38: "NONE if it does not meet the hours", at the first shop and at the last one. */
    private static void tellsNoneIfTheHoursAreNotMet() {
        Bakery b = Made.withShops(shop(5, 0, 0, 5, 0), shop(6, 0, 0, 6, 0));
        due.is("just in time", 12, () -> b.wayBack(0, 1));
        due.is("the last shop a minute late", OvenRound.NONE, () -> b.wayBack(0, 10));
        due.is("the first shop a minute late", OvenRound.NONE, () -> b.wayBack(1, 1));
    }

    /** Promise 38, with Terms 13: a way that the hours refuse is still looked at ahead of them. */
    private static void namesAWrongWayAheadOfTheHours() {
        Bakery b = Made.withShops(shop(20, 20, 0, 39, 0), shop(20, 20, 0, 39, 0));
        due.is("a right way", OvenRound.NONE, () -> b.wayBack(0, 1));
        due.refuses(Due.ARGUMENT, "a wrong way", b, x -> x.wayBack(0, 11));
        due.refuses(Due.ARGUMENT, "a wrong begin", b, x -> x.wayBack(601, 1));
        due.refuses(Due.ARGUMENT, "both", b, x -> x.wayBack(-1, 11));
    }
}
