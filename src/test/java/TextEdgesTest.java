/** The edges that the document names in "Terms", section 11, and in the promises 7, 42 and 43. */
public final class TextEdgesTest {
    private static final Due due = new Due();

    public static void main(String[] args) {
        due.runAll(TextEdgesTest.class);
    }

    private static void fault(int want, String... texts) {
        for (String text : texts) {
            due.is("fault of \"" + text + "\"", want, Made.withText(text), b -> b.fault());
        }
    }

    private static void right(String... texts) {
        fault(OvenRound.NONE, texts);
    }

    private static void length(int want, String what, Bakery b) {
        due.is("the length " + what, want, () -> b.type(0));
    }

    /** Two recipes that have parts of all goods, and acts to undo. */
    private static Bakery withParts() {
        Bakery b = Made.withRecipes(2);
        for (int good = 0; good <= 7; good++) {
            b.setPart(0, good, 11 + good);
            b.setPart(1, good, 21 + good);
        }
        return b;
    }

    private static void parts(Bakery b, int recipe, int... want) {
        for (int good = 0; good <= 7; good++) {
            int asked = good;
            due.is("parts of " + good + " in " + recipe, want[good], () -> b.setPart(recipe, asked, 0));
        }
    }

    /** All is then as if nothing had been typed and nothing read. */
    private static void refusesToRead(Class<? extends RuntimeException> kind, String text, int recipe) {
        Bakery typed = withParts();
        Due.type(typed, text);
        String call = "readParts(" + recipe + ") of \"" + text + "\"";
        due.is(call, Due.thrown(kind), typed, b -> b.readParts(recipe));
        due.is("the bakery behind " + call, Look.at(withParts(), 300), () -> Look.at(typed, 300));
    }

    /** Promise 42: "IllegalArgumentException if one of them is not 32 to 126", at each place of the number. */
    private static void typesBytesAtEachPlace() {
        for (int place = 0; place < 8; place++) {
            int shift = 8 * place;
            for (long taken : new long[] {32, 33, 125, 126}) {
                due.is(taken + " at " + place, 1, new Bakery(), b -> b.type(taken << shift));
            }
            for (long wrong : new long[] {1, 31, 127, 128, 254, 255}) {
                due.refuses(Due.ARGUMENT, wrong + " at " + place, new Bakery(), b -> b.type(wrong << shift));
                long among = 0x3131313131313131L & ~(255L << shift) | wrong << shift;
                due.refuses(Due.ARGUMENT, wrong + " among others at " + place, new Bakery(), b -> b.type(among));
            }
        }
    }

    /** Promise 42: "one of them is not 32 to 126": numbers that are below 0, or the furthest away. */
    private static void refusesNumbersThatWrapAround() {
        long[] wrong = {-1, Long.MIN_VALUE, Long.MAX_VALUE, Integer.MIN_VALUE, Integer.MAX_VALUE,
            0xa030303030303030L, 0x30303030a0303030L, 1L << 32, -32};
        for (long bytes : wrong) {
            due.refuses(Due.ARGUMENT, "type " + bytes, new Bakery(), b -> b.type(bytes));
        }
    }

    /** Promise 42: "the bytes of the number that are not 0, the highest one first". */
    private static void typesTheHighestByteFirst() {
        Bakery b = Made.withRecipes(1);
        due.is("\"1:23,4:5\"", 8, () -> b.type(0x313a32332c343a35L));
        due.is("its parts", 28, () -> b.readParts(0));
        parts(b, 0, 0, 23, 0, 0, 5, 0, 0, 0);
    }

    /** Promise 42: "the bytes of the number that are not 0": zeros ahead, between and behind are left out. */
    private static void leavesOutZeros() {
        due.is("zeros behind", 1, new Bakery(), b -> b.type(0x3100000000000000L));
        due.is("zeros ahead", 1, new Bakery(), b -> b.type(0x31L));
        Bakery b = Made.withRecipes(1);
        due.is("zeros between", 4, () -> b.type(0x0031003a00323300L));
        due.is("its parts", 23, () -> b.readParts(0));
    }

    /** Promise 42: "Puts up to 8 bytes behind the text", none too. */
    private static void typesNoByteToEightBytes() {
        long bytes = 0;
        for (int number = 0; number <= 8; number++) {
            long typed = bytes;
            due.is(number + " bytes", number, new Bakery(), b -> b.type(typed));
            due.is(number + " bytes behind 3", 3 + number, Made.withText("0:1"), b -> b.type(typed));
            bytes = bytes << 8 | ' ';
        }
    }

    /** Promise 42: "Returns the length of the text", of all that was typed. */
    private static void tellsTheLengthOfAll() {
        Bakery b = new Bakery();
        for (int number = 1; number <= 10; number++) {
            int want = 8 * number;
            due.is("type", want, () -> b.type(0x3031323334353637L));
        }
    }

    /** Promise 42: "IllegalStateException if the text would have more than 80 bytes": the last byte allowed. */
    private static void typesTheLastByte() {
        due.is("72 and 8", 80, Made.withText(" ".repeat(72)), b -> b.type(0x2020202020202020L));
        due.is("73 and 7", 80, Made.withText(" ".repeat(73)), b -> b.type(0x20202020202020L));
        due.is("73 and 7 with a zero behind", 80, Made.withText(" ".repeat(73)), b -> b.type(0x2020202020202000L));
        due.is("79 and 1", 80, Made.withText(" ".repeat(79)), b -> b.type(' '));
        due.is("80 and none", 80, Made.withText(" ".repeat(80)), b -> b.type(0));
    }

    /** Promise 42: "IllegalStateException if the text would have more than 80 bytes": the first byte refused. */
    private static void refusesTheFirstByteTooMuch() {
        due.refuses(Due.STATE, "73 and 8", Made.withText(" ".repeat(73)), b -> b.type(0x2020202020202020L));
        due.refuses(Due.STATE, "79 and 2", Made.withText(" ".repeat(79)), b -> b.type(0x2020L));
        due.refuses(Due.STATE, "80 and 1", Made.withText(" ".repeat(80)), b -> b.type(' '));
        due.refuses(Due.STATE, "80 and 1 at the top", Made.withText(" ".repeat(80)),
                b -> b.type(0x2000000000000000L));
    }

    /** Promise 42, with Terms 13: a wrong byte is ahead of a full text. */
    private static void namesAWrongByteAheadOfAFullText() {
        due.refuses(Due.ARGUMENT, "80 and a wrong one", Made.withText(" ".repeat(80)), b -> b.type(31));
        due.refuses(Due.ARGUMENT, "80 and eight", Made.withText(" ".repeat(80)), b -> b.type(0x207f202020202020L));
        due.refuses(Due.ARGUMENT, "80 and -1", Made.withText(" ".repeat(80)), b -> b.type(-1));
    }

    /** Promise 43: "NONE if it has none", for the shortest text and for the longest ones. */
    private static void findsNoFault() {
        right("0:0", "7:9999", "0:1" + " ".repeat(77), " ".repeat(77) + "0:1", "0:0,7:0",
                "0:1" + " ".repeat(30) + "," + " ".repeat(43) + "1:2");
        right("0:9999,1:9999,2:9999,3:9999,4:9999,5:9999,6:9999,7:9999");
        right("0000:9999 , 0001:9999, 2:9999 ,0003:9999,0004:9999,0005:9999,0006:9999,0007:9999");
    }

    /** Terms 11: "or its length if it ends too early (an empty text, too)". */
    private static void endsTooEarly() {
        fault(0, "");
        fault(1, " ", "0", "7");
        fault(2, "  ", "0 ", "0:", "07");
        fault(3, "0: ", "0 :");
        fault(4, "0:1,", "0007", "7:1,");
        fault(5, "0:1, ", "0:1,1", "0:1 ,");
        fault(6, "0:1,1:");
        fault(80, " ".repeat(80), "0:" + " ".repeat(78), " ".repeat(79) + "0", "0:1" + " ".repeat(76) + ",");
    }

    /** Terms 11: "must be greater than the good of the part ahead of it": no part can stand behind that of the good 7. */
    private static void endsWithTheGreatestGood() {
        String all = "0:1,1:1,2:1,3:1,4:1,5:1,6:1,7:1,";
        fault(32, all, all + ":", all + ",", all + "7", all + "8:1", all + "0:1", all + "9999 9");
        fault(33, all + " ", all + " ,", all + " 8:1");
        fault(36, all + "12345", all + "00000");
        fault(80, all + " ".repeat(48));
        fault(5, "7:1, ", "7:1, 7:1", "7:1, 8", "7:1, x");
    }

    /** Terms 11: "parts, with a comma between two": none ahead of the first one, none for two. */
    private static void needsACommaBetweenTwo() {
        right("0:1,1:2", "0:1,1:2,2:3", "0:1,1:2,2:3,3:4,4:5,5:6,6:7,7:8");
        fault(0, ",", ",0:1");
        fault(4, "0:1,,1:2", "0:1 1:2");
        fault(3, "0:1;1:2", "0:1:1", "0:1.", "0:1x");
        fault(5, "0:1, ,1:2");
    }

    /** Terms 11: "each is a number of a good, a colon and a number of parts". */
    private static void needsAColon() {
        fault(1, "0,1", "0;1", "0x", "0-", "7=1");
        fault(2, "0 1", "0 ,", "0::1", "0:,", "0:x", "0:;");
        fault(0, ":", ":1", "x", "-1:1", "+1:1");
    }

    /** Terms 11: a number is of digits alone; "/" and ":" are the bytes on their either side. */
    private static void takesDigitsAlone() {
        right("0:0", "0:9", "7:0123", "6:4567", "5:89");
        fault(0, "/:1", ";:1", "A:1");
        fault(2, "0:/", "0:;", "0:-1", "0:A");
        fault(3, "0:0/", "0:9:", "0:5a");
    }

    /** Terms 11: "blanks can stand ahead of and behind each number, comma and colon". */
    private static void letsBlanksStandBetween() {
        right(" 0:1", "0 :1", "0: 1", "0:1 ", "0:1 ,1:2", "0:1, 1:2", "   0   :   1   ,   1   :   2   ");
    }

    /** Terms 11: blanks can stand "not within a number". */
    private static void letsNoBlankStandWithin() {
        fault(4, "0:1 2", "0:0 0");
        fault(2, "0 0:1", "0 7:1");
        fault(8, "0:1,1:1 1");
        fault(6, "0:1,1 1:1");
    }

    /** Terms 11: only the byte 32 is a blank; 33 stands for none. */
    private static void takesOneByteForABlank() {
        fault(0, "!0:1");
        fault(3, "0:1!");
        fault(1, "0!:1");
    }

    /** Terms 11: "A number has 1 to 4 digits". */
    private static void takesOneToFourDigits() {
        right("1:1", "01:12", "001:123", "0001:1234", "0000:0000", "0007:0009");
        fault(2, "0:,1:1", "0:");
        fault(4, "00001:1", "00000:1");
        fault(6, "1:12345", "1:00000");
        fault(10, "0:1,1:999999");
    }

    /** Terms 11: "a number of parts (0 to 9999)". */
    private static void readsPartsFromNoneToTheMost() {
        due.is("0:0", 0, Made.withText("0:0"), b -> b.readParts(0));
        due.is("0:0000", 0, Made.withText("0:0000"), b -> b.readParts(0));
        due.is("0:0001", 1, Made.withText("0:0001"), b -> b.readParts(0));
        due.is("0:9999", 9999, Made.withText("0:9999"), b -> b.readParts(0));
        fault(6, "0:10000", "0:09999");
    }

    /** Terms 11: "a good is a number below 8". */
    private static void takesGoodsBelowEight() {
        right("0:1", "7:1", "07:1", "0007:1");
        fault(0, "8:1", "9:1", "08:1", "0008:1", "10:1", "9999:1");
        fault(4, "0:1,8:1", "0:1,0010:1");
    }

    /** Terms 11: a good "must be greater than the good of the part ahead of it". */
    private static void takesGreaterGoodsAlone() {
        right("0:1,1:1", "6:1,7:1", "0:1,7:1", "0:1,0001:1");
        fault(4, "0:1,0:1", "1:1,0:1", "7:1,7:1", "7:1,6:1", "3:1,0003:1");
        fault(8, "0:1,5:1,5:1", "0:1,5:1,4:1", "2:1,5:1,3:1");
        fault(32, "0:1,1:1,2:1,3:1,4:1,5:1,6:1,7:1,7:1");
    }

    /** Terms 11: "A number with more than 4 digits has its fault at the fifth one, whatever it is". */
    private static void findsTheFifthDigit() {
        fault(4, "00000", "00001:1", "99999:1", "12345", "80000x", "0".repeat(80), "9".repeat(80));
        fault(8, "5:1,00001:1", "5:1,99999:1", "5:1,00006:1");
        fault(6, "0:00000", "0:12345", "0:99999,1:1", "0:" + "1".repeat(78));
        fault(7, " 0:99999", "   88888:1");
    }

    /** Terms 11: "otherwise a good that cannot be has it at its first digit", whatever is behind it. */
    private static void findsTheFirstDigitOfAGood() {
        fault(0, "8", "8x", "8 ", "9999", "9999x", "10", "8,", "8:");
        fault(2, "  8:1", "  9");
        fault(4, "3:1,3", "3:1,2x", "3:1,8", "3:1,0003", "7:1,7");
        fault(6, "3:1,  3:1", "3:1 , 2");
    }

    /** Terms 11: "the place of the first byte that cannot stand where it stands", if others are behind it. */
    private static void findsTheFirstOfManyFaults() {
        fault(0, "x:y,9:99999", "8:99999");
        fault(2, "0:x,0:x");
        fault(3, "0:1x8:99999");
        fault(79, "0:1" + " ".repeat(76) + "x");
    }

    /** Promise 43: fault() leaves the text as it is. */
    private static void asksForTheFaultTwice() {
        Bakery b = Made.withText("0:1,1");
        due.is("fault", 5, () -> b.fault());
        due.is("fault again", 5, () -> b.fault());
        length(5, "behind it", b);
        Due.type(b, ":7");
        due.is("fault behind more bytes", OvenRound.NONE, () -> b.fault());
    }

    /** Promise 7: "the goods that it tells get these parts in a recipe, all others 0". */
    private static void readsPartsOfToldGoods() {
        Bakery b = withParts();
        Due.type(b, "1:5,6:0");
        due.is("readParts(0)", 5, () -> b.readParts(0));
        parts(b, 0, 0, 5, 0, 0, 0, 0, 0, 0);
        parts(b, 1, 21, 22, 23, 24, 25, 26, 27, 28);
    }

    /** Promise 7: "the goods that it tells", the first one and the last one alone, and all. */
    private static void readsPartsOfTheFirstAndTheLastGood() {
        Bakery b = withParts();
        Due.type(b, "0:1");
        due.is("readParts(0)", 1, () -> b.readParts(0));
        Due.type(b, "7:2");
        due.is("readParts(1)", 2, () -> b.readParts(1));
        parts(b, 0, 1, 0, 0, 0, 0, 0, 0, 0);
        parts(b, 1, 0, 0, 0, 0, 0, 0, 0, 2);
        Due.type(b, "0:1,1:2,2:3,3:4,4:5,5:6,6:7,7:8");
        due.is("readParts(0) of all", 36, () -> b.readParts(0));
        parts(b, 0, 1, 2, 3, 4, 5, 6, 7, 8);
    }

    /** Promise 7: "Returns the sum of all parts", the least and the greatest one. */
    private static void tellsTheSumOfParts() {
        due.is("no parts", 0, Made.withText("0:0,7:0"), b -> b.readParts(0));
        due.is("all parts", 79992, Made.withText("0:9999,1:9999,2:9999,3:9999,4:9999,5:9999,6:9999,7:9999"),
                b -> b.readParts(0));
    }

    /** Promise 7: all goods that it does not tell get 0, so that a recipe may have no parts then. */
    private static void readsARecipeWithoutParts() {
        Bakery b = Made.withText("3:0");
        due.is("readParts(0)", 0, () -> b.readParts(0));
        due.refuses(Due.STATE, "amount", b, x -> x.amount(0, 1, 0));
        due.refuses(Due.STATE, "mix", b, x -> x.mix(0, 1));
    }

    /** Promise 7: "The text is empty then". */
    private static void emptiesTheText() {
        Bakery b = Made.withText("0:1" + " ".repeat(77));
        b.readParts(0);
        length(0, "behind readParts()", b);
        due.is("fault", 0, () -> b.fault());
        due.is("readParts() again", Due.thrown(Due.ARGUMENT), () -> b.readParts(0));
        Due.type(b, "1:" + "0".repeat(4) + " ".repeat(74));
        length(80, "of a full text again", b);
    }

    /** Promise 7, recipe: "number of a recipe"; the text is empty then "also if an exception is thrown". */
    private static void refusesToReadIntoNoRecipe() {
        for (int recipe : new int[] {-1, 2, 6, Integer.MIN_VALUE, Integer.MAX_VALUE}) {
            refusesToRead(Due.INDEX, "0:1", recipe);
        }
        Bakery none = new Bakery();
        Due.type(none, "0:1");
        due.is("readParts(0) without recipes", Due.thrown(Due.INDEX), () -> none.readParts(0));
        length(0, "behind it", none);
        Bakery six = Made.withRecipes(6);
        Due.type(six, "0:1,1:3");
        due.is("readParts(5) of six", 4, () -> six.readParts(5));
    }

    /** Promise 7: "IllegalArgumentException if the text has a fault"; the text is empty then as well. */
    private static void refusesToReadFaults() {
        for (String text : new String[] {"", " ", "0:1,", "0:1,0:2", "8:1", "0:12345", "x", "0:1 x"}) {
            refusesToRead(Due.ARGUMENT, text, 0);
            refusesToRead(Due.ARGUMENT, text, 1);
        }
    }

    /** Promise 7, with Terms 13: no such recipe is ahead of a fault; the text is empty then "(whichever one)". */
    private static void namesNoRecipeAheadOfAFault() {
        refusesToRead(Due.INDEX, "", 2);
        refusesToRead(Due.INDEX, "0:1,", 2);
        refusesToRead(Due.INDEX, "8:1", -1);
    }

    /** Terms 12: "To undo brings back all but the text", behind a text that was read and one typed since. */
    private static void undoLeavesTheText() {
        Bakery b = withParts();
        Due.type(b, "0:1");
        b.readParts(0);
        b.undo();
        length(0, "behind undo", b);
        Bakery c = withParts();
        Due.type(c, "0:1");
        c.readParts(0);
        Due.type(c, "2:3,");
        c.undo();
        length(4, "typed since", c);
        parts(c, 0, 11, 12, 13, 14, 15, 16, 17, 18);
    }

    /** Terms 12: type() and fault() are no acts. */
    private static void remembersNoTyping() {
        Bakery b = Made.withAllergens(0);
        b.type('0');
        b.fault();
        due.is("actCount", 1, () -> b.actCount());
        due.is("undo", 0, () -> b.undo());
        length(1, "behind undo", b);
    }
}
