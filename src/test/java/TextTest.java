/** Promises 7, 42 and 43: the text as parts. */
public final class TextTest {
    private static final Due due = new Due();

    public static void main(String[] args) {
        types();
        refusesBytes();
        refusesLength();
        findsFaults();
        readsParts();
        emptiesTheText();
        due.end();
    }

    private static void types() {
        Bakery b = new Bakery();
        due.is("type(0)", 0, () -> b.type(0));
        due.is("type \"0:\" with zeros between", 2, () -> b.type(0x30_00_00_3a_00_00_00_00L));
        due.is("type \"5\"", 3, () -> b.type(0x35L));
        due.is("fault", OvenRound.NONE, () -> b.fault());
        due.is("type eight blanks", 11, () -> b.type(0x2020202020202020L));
        due.is("type \"~\"", 12, () -> b.type(0x7e00000000000000L));
        due.is("fault", 11, () -> b.fault());
        due.is("actCount", 0, () -> b.actCount());
    }

    private static void refusesBytes() {
        Bakery b = new Bakery();
        b.type(0x30L);
        for (int place = 0; place < 8; place++) {
            for (long wrong : new long[] {1, 31, 127, 128, 160, 255}) {
                long bytes = 0x3000000000000030L & ~(0xffL << 8 * place) | wrong << 8 * place;
                due.refuses(b, "type " + Long.toHexString(bytes), Due.ARGUMENT, () -> b.type(bytes));
            }
        }
        due.refuses(b, "type(-1)", Due.ARGUMENT, () -> b.type(-1));
        due.is("type(0)", 1, () -> b.type(0));
    }

    private static void refusesLength() {
        Bakery b = new Bakery();
        Due.type(b, " ".repeat(73));
        due.refuses(b, "81 bytes", Due.STATE, () -> b.type(0x2020202020202020L));
        due.refuses(b, "81 bytes, one wrong", Due.ARGUMENT, () -> b.type(0x2020202020202001L));
        due.is("80 bytes", 80, () -> b.type(0x20202020202020L));
        due.is("fault", 80, () -> b.fault());
        due.is("type(0)", 80, () -> b.type(0));
        due.refuses(b, "byte 81", Due.STATE, () -> b.type(0x20));
        b.addRecipe(50, 1, 1, 100, 0);
        due.is("readParts", "throws IllegalArgumentException", () -> b.readParts(0));
        due.is("type behind it", 1, () -> b.type(0x20));
    }

    private static void fault(String text, int want) {
        Bakery b = new Bakery();
        Due.type(b, text);
        due.is("fault of \"" + text + "\"", want, () -> b.fault());
    }

    private static void findsFaults() {
        String[] right = {"0:0", "7:9999", "0:1,1:2,2:3,3:4,4:5,5:6,6:7,7:8", " 0 : 1 , 7 : 2 ", "0001:0002",
            "0:1,0007:0000", "   3   :   44   "};
        for (String text : right) {
            fault(text, OvenRound.NONE);
        }
        Object[][] wrong = {{"", 0}, {" ", 1}, {"0", 1}, {"0 ", 2}, {"0:", 2}, {"0: ", 3}, {"0:1,", 4}, {"0:1, ", 5},
            {"7:1,", 4}, {"x", 0}, {"0x", 1}, {"0:x", 2}, {"0:1x", 3}, {"0:1,x", 4}, {":", 0}, {",", 0}, {"0,", 1},
            {"0::", 2}, {"0:,", 2}, {"0:1:", 3}, {"0:1,,", 4}, {"0 1:2", 2}, {"0:1 2", 4}, {"0:1 2,3:4", 4},
            {"8", 0}, {"8:1", 0}, {"  9:1", 2}, {"9x", 0}, {"10:1", 0}, {"9999", 0}, {"9999:1", 0},
            {"00000", 4}, {"00001:2", 4}, {"99999:2", 4}, {" 123456", 5}, {"0:12345", 6}, {"0: 00000,9", 7},
            {"1:2,1:3", 4}, {"1:2,0:3", 4}, {"1:2, 0", 5}, {"1:2,0x", 4}, {"5:1,00001:1", 8}, {"0:-1", 2},
            {"+1:1", 0}, {"0:1.", 3}, {"0:1,8:1,x", 4}, {"0/1", 1}, {"0:/", 2}, {"0:;", 2}, {"/:1", 0}, {"1;2", 1}};
        for (Object[] row : wrong) {
            fault((String) row[0], (Integer) row[1]);
        }
        fault("0:1" + " ".repeat(77), OvenRound.NONE);
        fault(" ".repeat(77) + "0:1", OvenRound.NONE);
        fault(" ".repeat(78) + "0:", 80);
    }

    private static void readsParts() {
        Bakery b = new Bakery();
        b.addRecipe(50, 1, 1, 100, 0);
        b.addRecipe(50, 1, 1, 100, 0);
        b.setPart(0, 1, 77);
        b.setPart(1, 1, 66);
        Due.type(b, "0:3, 0004 : 0002 ,7:9999");
        due.is("readParts(0)", 10004, () -> b.readParts(0));
        int[] want = {3, 0, 0, 0, 2, 0, 0, 9999};
        for (int i = 0; i < 8; i++) {
            int good = i;
            due.is("parts of " + good, want[i], () -> b.setPart(0, good, 0));
        }
        due.is("parts of the other recipe", 66, () -> b.setPart(1, 1, 66));
        due.is("the text is empty", 0, () -> b.type(0));
        Due.type(b, "5:0");
        due.is("readParts(0)", 0, () -> b.readParts(0));
        due.refuses(b, "amount without parts", Due.STATE, () -> b.amount(0, 1, 5));
    }

    private static void emptiesTheText() {
        Bakery b = new Bakery();
        b.addRecipe(50, 1, 1, 100, 0);
        b.setPart(0, 1, 77);
        int acts = b.actCount();
        String[] texts = {"0:1", "0:", ""};
        for (String text : texts) {
            for (int wrong : new int[] {1, -1}) {
                Due.type(b, text);
                due.is("readParts(" + wrong + ") of " + text, "throws IndexOutOfBoundsException",
                        () -> b.readParts(wrong));
                due.is("the text is empty", 0, () -> b.type(0));
            }
        }
        Due.type(b, "0:1,");
        due.is("readParts(0) with a fault", "throws IllegalArgumentException", () -> b.readParts(0));
        due.is("the text is empty", 0, () -> b.type(0));
        due.is("readParts(0) of no text", "throws IllegalArgumentException", () -> b.readParts(0));
        due.is("actCount", acts, () -> b.actCount());
        due.is("the parts", 77, () -> b.setPart(0, 1, 77));
        due.is("the other parts", 0, () -> b.setPart(0, 0, 0));
    }
}
