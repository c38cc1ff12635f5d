import java.math.BigInteger;

/**
 * Each sentence under "What it is" and "Terms" that names a boundary case, with a test of its own: its
 * words are told beside the test, and by what the test prints when it fails.
 */
public final class TermsTest {
    private static final Check CHECK = new Check();
    private static final int NONE = PackedDecimals.NONE;
    private static final Class<?> ARITHMETIC = ArithmeticException.class;
    private static final String HEX = "0123456789ABCDEF";

    private static final int DIVIDE = 3;
    private static final int TIMES_TEN_TO = 5;

    /** Stands for the bytes that are due: the answer is 0, and the bytes stay as they were. */
    private static final String SIZE_ERROR = "size error";

    /** The usages that hold decimal digits, and what each writes for 999, -999 and 0 with three digits. */
    private static final int[] DECIMAL = {0, 1, 2, 3, 4, 5, 6, 7, 11};
    private static final String[] NINES = {"F9F9C9", "C9F9F9", "F9F9F94E", "4EF9F9F9", "F9F9F9", "999C", "999F",
        "03E7", "003900390039002B"};
    private static final String[] MINUS_NINES = {"F9F9D9", "D9F9F9", "F9F9F960", "60F9F9F9", "F9F9F9", "999D",
        "999F", "FC19", "003900390039002D"};

    /** Zero in two digits, as each usage writes it. */
    private static final String[] ZEROS = {"F0C0", "C0F0", "F0F04E", "4EF0F0", "F0F0", "000C", "000F", "0000",
        "0000", "00000000", "0000000000000000", "00300030002B"};

    /** A value; what roundings 0 to 6 make of it in whole numbers; whether rounding 7 takes it. */
    private static final String[][] ROUNDED = {
        {"2.5", "2", "3", "2", "2", "3", "3", "2", "no"},
        {"-2.5", "-2", "-3", "-2", "-2", "-3", "-2", "-3", "no"},
        {"3.5", "3", "4", "4", "3", "4", "4", "3", "no"},
        {"-3.5", "-3", "-4", "-4", "-3", "-4", "-3", "-4", "no"},
        {"0.5", "0", "1", "0", "0", "1", "1", "0", "no"},
        {"-0.5", "0", "-1", "0", "0", "-1", "0", "-1", "no"},
        {"2.4999999999999999999999999999", "2", "2", "2", "2", "3", "3", "2", "no"},
        {"-2.4999999999999999999999999999", "-2", "-2", "-2", "-2", "-3", "-2", "-3", "no"},
        {"2.5000000000000000000000000001", "2", "3", "3", "3", "3", "3", "2", "no"},
        {"-2.5000000000000000000000000001", "-2", "-3", "-3", "-3", "-3", "-2", "-3", "no"},
        {"3.4999999999999999999999999999", "3", "3", "3", "3", "4", "4", "3", "no"},
        {"7.0000000000000000000000000001", "7", "7", "7", "7", "8", "8", "7", "no"},
        {"-7.0000000000000000000000000001", "-7", "-7", "-7", "-7", "-8", "-7", "-8", "no"},
        {"7.9999999999999999999999999999", "7", "8", "8", "8", "8", "8", "7", "no"},
        {"-7.9999999999999999999999999999", "-7", "-8", "-8", "-8", "-8", "-7", "-8", "no"},
        {"0.0000000000000000000000000001", "0", "0", "0", "0", "1", "1", "0", "no"},
        {"-0.0000000000000000000000000001", "0", "0", "0", "0", "-1", "0", "-1", "no"},
        {"4.0", "4", "4", "4", "4", "4", "4", "4", "yes"},
        {"-4.0", "-4", "-4", "-4", "-4", "-4", "-4", "-4", "yes"},
        {"0.0", "0", "0", "0", "0", "0", "0", "0", "yes"},
    };

    private static BigInteger tenTo(int power) {
        return BigInteger.TEN.pow(power);
    }

    private static String packed(String whole, int digits) {
        BigInteger value = new BigInteger(whole);
        return String.format("%0" + digits + "d", value.abs()) + (value.signum() < 0 ? "D" : "C");
    }

    private static void dueValid(int usage, int digits, String hex, boolean want) {
        PackedDecimals x = new PackedDecimals();
        int number = Bytes.made(x, usage, digits, 0, hex);
        CHECK.due("size of usage " + usage + ", " + digits + " digits", x.size(number), hex.length() / 2);
        CHECK.due("valid: usage " + usage + ", " + digits + " digits, " + hex, x.valid(number), want);
    }

    private static void dueValue(int usage, int digits, int scale, String hex, String value) {
        PackedDecimals x = new PackedDecimals();
        int number = Bytes.made(x, usage, digits, scale, hex);
        String call = hex + " of usage " + usage + ", " + digits + " digits, scale " + scale;
        CHECK.due(call + " against " + value, x.compare(number, Bytes.decimal(x, value)), 0);
    }

    /** What an op stores, by a rounding, in a new number full of bytes 5A; b is op 5's count. */
    private static void dueStored(int op, String a, String b, int[] into, int rounding, String want) {
        PackedDecimals x = new PackedDecimals();
        int target = x.number(into[0], into[1], into[2]);
        String before = "5A".repeat(x.size(target));
        Bytes.load(x, target, before);
        x.round(target, rounding);
        int left = Bytes.decimal(x, a);
        int right = op == TIMES_TEN_TO ? Integer.parseInt(b) : Bytes.decimal(x, b);
        boolean error = want.equals(SIZE_ERROR);
        String call = "op " + op + " of " + a + " and " + b + " into usage " + into[0] + ", " + into[1]
                + " digits, scale " + into[2] + " by rounding " + rounding;
        CHECK.due(call, x.apply(op, left, right, target), error ? 0 : 1);
        CHECK.due(call + ": bytes", Bytes.of(x, target), error ? before : want);
        CHECK.due(call + ": its rounding after it", x.round(target, 0), rounding);
    }

    private static void dueStored(String value, int[] into, int rounding, String want) {
        dueStored(TIMES_TEN_TO, value, "0", into, rounding, want);
    }

    private static int[] form(int usage, int digits, int scale) {
        return new int[] {usage, digits, scale};
    }

    private static void calls() {
        PackedDecimals x = new PackedDecimals();
        int sum = Bytes.made(x, 7, 4, 0, "0000");
        int one = Bytes.made(x, 8, 4, 0, "0001");
        int bad = Bytes.made(x, 5, 1, 0, "00");
        // Eight calls up to here: 3 of number, 5 of octet.
        for (int call = 9; call < 511; call += 2) {
            CHECK.due("call " + call, x.apply(0, sum, one, sum), 1);
            CHECK.due("call " + (call + 1), x.valid(bad), false);
        }
        CHECK.due("call 511", x.at(sum, 0), 0);
        CHECK.due("call 512", x.at(sum, 1), (byte) 251);
    }

    private static void countsOfDigits() {
        for (int usage = 0; usage < 12; usage++) {
            PackedDecimals x = new PackedDecimals();
            CHECK.due("0 digits of usage " + usage, x.number(usage, 0, 0), NONE);
            CHECK.due("1 digit of usage " + usage, x.number(usage, 1, 0), 0);
            CHECK.due("31 digits of usage " + usage, x.number(usage, 31, 0), 1);
            CHECK.due("32 digits of usage " + usage, x.number(usage, 32, 0), NONE);
        }
    }

    private static void scales() {
        for (int usage = 0; usage < 12; usage++) {
            PackedDecimals x = new PackedDecimals();
            int made = 0;
            for (int n : new int[] {1, 2, 30, 31}) {
                CHECK.due("scale -1 of usage " + usage, x.number(usage, n, -1), NONE);
                CHECK.due("scale 0 of usage " + usage, x.number(usage, n, 0), made++);
                CHECK.due("scale " + n + " of usage " + usage, x.number(usage, n, n), made++);
                CHECK.due("scale " + (n + 1) + " of usage " + usage, x.number(usage, n, n + 1), NONE);
            }
        }
    }

    private static void bytesAtFirst() {
        for (int usage = 0; usage < 12; usage++) {
            PackedDecimals x = new PackedDecimals();
            for (int n : new int[] {1, 18, 31}) {
                int number = x.number(usage, n, 0);
                CHECK.due("bytes of usage " + usage, Bytes.of(x, number), "00".repeat(x.size(number)));
            }
        }
    }

    private static void roundingAtFirst() {
        for (int usage = 0; usage < 12; usage++) {
            PackedDecimals x = new PackedDecimals();
            CHECK.due("rounding of usage " + usage, x.round(x.number(usage, 2, 0), 5), 0);
        }
        PackedDecimals x = new PackedDecimals();
        int number = x.number(5, 1, 0);
        x.apply(TIMES_TEN_TO, Bytes.decimal(x, "-1.9"), 0, number);
        CHECK.due("-1.9 by the first rounding", Bytes.of(x, number), "1D");
    }

    /** One half of a byte takes each of the sixteen letters; with those that are due the number is valid. */
    private static void dueLetters(int usage, int digits, String before, String due, String behind) {
        for (int i = 0; i < 16; i++) {
            String letter = HEX.substring(i, i + 1);
            dueValid(usage, digits, before + letter + behind, due.contains(letter));
        }
    }

    private static void zonedSignBehind() {
        dueLetters(0, 3, "", "F", "1F2C3");
        dueLetters(0, 3, "F1", "F", "2C3");
        dueLetters(0, 3, "F1F2", "ABCDEF", "3");
        dueLetters(0, 3, "F", "0123456789", "F2C3");
        dueLetters(0, 3, "F1F2C", "0123456789", "");
        dueLetters(0, 1, "", "ABCDEF", "9");
        dueLetters(0, 1, "D", "0123456789", "");
        dueValue(0, 3, 0, "F1F2C3", "123");
        dueValue(0, 31, 0, "F9".repeat(30) + "D8", "-" + "9".repeat(30) + "8");
    }

    private static void zonedSignAhead() {
        dueLetters(1, 3, "", "ABCDEF", "1F2F3");
        dueLetters(1, 3, "C1", "F", "2F3");
        dueLetters(1, 3, "C1F2", "F", "3");
        dueLetters(1, 3, "C", "0123456789", "F2F3");
        dueLetters(1, 3, "C1F2F", "0123456789", "");
        dueLetters(1, 1, "", "ABCDEF", "9");
        dueValue(1, 3, 0, "C1F2F3", "123");
        dueValue(1, 31, 0, "D8" + "F9".repeat(30), "-8" + "9".repeat(30));
    }

    private static void zonedSigns() {
        for (String plus : new String[] {"A", "C", "E", "F"}) {
            dueValue(0, 2, 0, "F1" + plus + "2", "12");
            dueValue(1, 2, 0, plus + "1F2", "12");
            dueValue(0, 1, 0, plus + "7", "7");
        }
        for (String minus : new String[] {"B", "D"}) {
            dueValue(0, 2, 0, "F1" + minus + "2", "-12");
            dueValue(1, 2, 0, minus + "1F2", "-12");
            dueValue(1, 1, 0, minus + "7", "-7");
        }
    }

    private static void zonedSignsWritten() {
        dueStored("12", form(0, 2, 0), 0, "F1C2");
        dueStored("-12", form(0, 2, 0), 0, "F1D2");
        dueStored("12", form(1, 2, 0), 0, "C1F2");
        dueStored("-12", form(1, 2, 0), 0, "D1F2");
        dueStored("7", form(0, 1, 0), 0, "C7");
        dueStored("-7", form(1, 1, 0), 0, "D7");
    }

    /** The byte that bears a sign takes each of the 256 values; two of them are valid. */
    private static void dueSigns(int usage, String before, int plus, int minus, String behind) {
        for (int b = 0; b < 256; b++) {
            dueValid(usage, 2, before + String.format("%02X", b) + behind, b == plus || b == minus);
        }
    }

    private static void zonedSignByteBehind() {
        dueSigns(2, "F1F2", 0x4e, 0x60, "");
        dueLetters(2, 2, "F1", "F", "24E");
        dueLetters(2, 2, "F1F", "0123456789", "60");
        dueValue(2, 2, 0, "F1F24E", "12");
        dueValue(2, 2, 0, "F1F260", "-12");
        dueStored("12", form(2, 2, 0), 0, "F1F24E");
        dueStored("-12", form(2, 2, 0), 0, "F1F260");
    }

    private static void zonedSignByteAhead() {
        dueSigns(3, "", 0x4e, 0x60, "F1F2");
        dueLetters(3, 2, "4E", "F", "1F2");
        dueLetters(3, 2, "60F1F", "0123456789", "");
        dueValue(3, 2, 0, "4EF1F2", "12");
        dueValue(3, 2, 0, "60F1F2", "-12");
        dueStored("12", form(3, 2, 0), 0, "4EF1F2");
        dueStored("-12", form(3, 2, 0), 0, "60F1F2");
    }

    private static void zonedWithoutSign() {
        dueLetters(4, 2, "", "F", "1F2");
        dueLetters(4, 2, "F1", "F", "2");
        dueLetters(4, 2, "F1F", "0123456789", "");
        dueLetters(4, 1, "", "F", "9");
        dueValue(4, 2, 0, "F1F2", "12");
    }

    private static void packedHalves() {
        for (int n = 1; n <= 31; n++) {
            PackedDecimals x = new PackedDecimals();
            CHECK.due("bytes of " + n + " digits", x.size(x.number(5, n, 0)), n / 2 + 1);
        }
        dueLetters(5, 2, "", "0", "12C");
        dueLetters(5, 3, "", "0123456789", "12C");
        dueLetters(5, 2, "01", "0123456789", "C");
        dueLetters(5, 3, "123", "ABCDEF", "");
        dueLetters(5, 30, "", "0", "9".repeat(30) + "D");
        dueValue(5, 31, 0, "1" + "0".repeat(29) + "2D", "-1" + "0".repeat(29) + "2");
        dueStored("12", form(5, 2, 0), 0, "012C");
        dueStored("123", form(5, 3, 0), 0, "123C");
    }

    private static void packedSigns() {
        for (String plus : new String[] {"A", "C", "E", "F"}) {
            dueValue(5, 1, 0, "7" + plus, "7");
        }
        for (String minus : new String[] {"B", "D"}) {
            dueValue(5, 1, 0, "7" + minus, "-7");
        }
        dueStored("7", form(5, 1, 0), 0, "7C");
        dueStored("-7", form(5, 1, 0), 0, "7D");
    }

    private static void packedWithoutSign() {
        dueLetters(6, 2, "012", "F", "");
        dueLetters(6, 2, "", "0", "12F");
        dueLetters(6, 3, "12", "0123456789", "F");
        dueValue(6, 2, 0, "012F", "12");
        dueStored("12", form(6, 2, 0), 0, "012F");
        dueStored("123", form(6, 3, 0), 0, "123F");
    }

    private static int binaryBytes(int n) {
        return n <= 4 ? 2 : n <= 9 ? 4 : n <= 18 ? 8 : 16;
    }

    private static void binarySizes() {
        int[][] edges = {{1, 2}, {4, 2}, {5, 4}, {9, 4}, {10, 8}, {18, 8}, {19, 16}, {31, 16}};
        for (int[] edge : edges) {
            PackedDecimals x = new PackedDecimals();
            CHECK.due("BINARY of " + edge[0], x.size(x.number(7, edge[0], 0)), edge[1]);
            CHECK.due("WHOLE of " + edge[0], x.size(x.number(8, edge[0], 0)), edge[1]);
        }
    }

    private static void binaryComplements() {
        for (int n : new int[] {4, 9, 18, 31}) {
            int bytes = binaryBytes(n);
            for (String value : new String[] {"1", "258", "-1", "-258", "-256", "0"}) {
                String hex = Bytes.complement(new BigInteger(value), bytes);
                dueValue(7, n, 0, hex, value);
                dueStored(value, form(7, n, 0), 0, hex);
                dueStored(value, form(8, n, 0), 0, hex);
            }
        }
        dueValue(7, 4, 0, "0102", "258");
        dueValue(7, 4, 0, "FEFE", "-258");
    }

    private static void binaryBounds() {
        for (int n = 1; n <= 31; n++) {
            int bytes = binaryBytes(n);
            BigInteger most = tenTo(n).subtract(BigInteger.ONE);
            dueValid(7, n, Bytes.complement(most, bytes), true);
            dueValid(7, n, Bytes.complement(tenTo(n), bytes), false);
            dueValid(7, n, Bytes.complement(most.negate(), bytes), true);
            dueValid(7, n, Bytes.complement(tenTo(n).negate(), bytes), false);
            dueValid(7, n, "80" + "00".repeat(bytes - 1), false);
            dueValid(7, n, "7F" + "FF".repeat(bytes - 1), false);
        }
    }

    private static void wholeBounds() {
        for (int n : new int[] {1, 4, 5, 9, 10, 18}) {
            int bytes = binaryBytes(n);
            BigInteger end = BigInteger.TWO.pow(8 * bytes - 1);
            dueValue(8, n, 0, "80" + "00".repeat(bytes - 1), end.negate().toString());
            dueValue(8, n, 0, "7F" + "FF".repeat(bytes - 1), end.subtract(BigInteger.ONE).toString());
        }
        for (int n : new int[] {19, 31}) {
            // These values have 39 digits, more than a number to compare with can have.
            dueWholeDigits(n, "80" + "00".repeat(15), "170141183460469231731687303715884105728");
            dueWholeDigits(n, "7F" + "FF".repeat(15), "170141183460469231731687303715884105727");
        }
    }

    private static void dueWholeDigits(int n, String hex, String digits) {
        PackedDecimals x = new PackedDecimals();
        int number = Bytes.made(x, 8, n, 0, hex);
        CHECK.due(hex + " is valid", x.valid(number), true);
        for (int i = 0; i < digits.length(); i++) {
            CHECK.due("digit " + i + " of " + hex, x.digit(number, i), digits.charAt(digits.length() - 1 - i) - '0');
        }
    }

    private static void floatingBits() {
        dueValue(9, 1, 0, "3F800000", "1");
        dueValue(9, 1, 0, "C0490FDB", "-3.1415927410125732421875");
        dueValue(9, 1, 0, "4B7FFFFF", "16777215");
        dueValue(10, 1, 0, "3FF0000000000000", "1");
        dueValue(10, 1, 0, "C059200000000000", "-100.5");
        dueValue(10, 1, 0, "433FFFFFFFFFFFFF", "9007199254740991");
        dueValue(10, 1, 0, "0000000000000000", "0");
        dueValue(9, 1, 0, "00000000", "0");
    }

    private static void floatingLeast() {
        // The float next to 10 to the -31 is less than it, the double is more.
        for (String sign : new String[] {"0", "8"}) {
            dueValid(9, 1, sign + "C01CEB3", false);
            dueValid(9, 1, sign + "C01CEB4", true);
            dueValid(9, 1, sign + "0000001", false);
            dueValid(9, 1, sign + "0800000", false);
            dueValid(9, 1, sign + "0000000", true);
        }
        for (String sign : new String[] {"3", "B"}) {
            dueValid(10, 1, sign + "98039D66589687F", false);
            dueValid(10, 1, sign + "98039D665896880", true);
        }
        for (String sign : new String[] {"0", "8"}) {
            dueValid(10, 1, sign + "000000000000001", false);
            dueValid(10, 1, sign + "010000000000000", false);
            dueValid(10, 1, sign + "000000000000000", true);
        }
    }

    private static void floatingEnd() {
        // The float and the double next to 10 to the 31 are less than it.
        for (String sign : new String[] {"7", "F"}) {
            dueValid(9, 1, sign + "2FC6F7C", true);
            dueValid(9, 1, sign + "2FC6F7D", false);
            dueValid(9, 1, sign + "F7FFFFF", false);
            dueValid(9, 1, sign + "F800000", false);
            dueValid(9, 1, sign + "FC00000", false);
            dueValid(10, 1, sign + "FEFFFFFFFFFFFFF", false);
            dueValid(10, 1, sign + "FF0000000000000", false);
            dueValid(10, 1, sign + "FF8000000000000", false);
        }
        for (String sign : new String[] {"4", "C"}) {
            dueValid(10, 1, sign + "65F8DEF8808B024", true);
            dueValid(10, 1, sign + "65F8DEF8808B025", false);
        }
    }

    private static void floatingDigitsAndScale() {
        for (int usage = 9; usage <= 10; usage++) {
            PackedDecimals x = new PackedDecimals();
            CHECK.due("no digits", x.number(usage, 0, 0), NONE);
            CHECK.due("32 digits", x.number(usage, 32, 0), NONE);
            CHECK.due("a scale above them", x.number(usage, 5, 6), NONE);
            CHECK.due("a scale below 0", x.number(usage, 5, -1), NONE);
        }
        for (int[] n : new int[][] {{1, 0}, {1, 1}, {31, 31}}) {
            dueValue(9, n[0], n[1], "42F6E666", "123.4499969482421875");
            dueValue(10, n[0], n[1], "405EDC0000000000", "123.4375");
            dueStored("123.45", form(9, n[0], n[1]), 0, "42F6E666");
            dueStored("123.45", form(10, n[0], n[1]), 0, "405EDCCCCCCCCCCD");
        }
    }

    private static void national() {
        for (int b = 0; b < 256; b++) {
            String hex = String.format("%02X", b);
            dueValid(11, 2, hex + "310032002B", b == 0);
            dueValid(11, 2, "00" + hex + "0032002B", b >= 0x30 && b <= 0x39);
            dueValid(11, 2, "0031" + hex + "32002D", b == 0);
            dueValid(11, 2, "003100" + hex + "002D", b >= 0x30 && b <= 0x39);
            dueValid(11, 2, "00310032" + hex + "2B", b == 0);
            dueValid(11, 2, "0031003200" + hex, b == 0x2b || b == 0x2d);
        }
        dueValue(11, 2, 0, "00310032002B", "12");
        dueValue(11, 2, 0, "00310032002D", "-12");
        dueStored("12", form(11, 2, 0), 0, "00310032002B");
        dueStored("-12", form(11, 2, 0), 0, "00310032002D");
    }

    private static void valuesByScale() {
        for (int k = 0; k < DECIMAL.length; k++) {
            dueValue(DECIMAL[k], 3, 0, NINES[k], "999");
            dueValue(DECIMAL[k], 3, 1, NINES[k], "99.9");
            dueValue(DECIMAL[k], 3, 3, NINES[k], "0.999");
        }
        dueValue(8, 4, 4, "8000", "-3.2768");
        dueValue(5, 31, 31, "0".repeat(30) + "1D", "-0." + "0".repeat(30) + "1");
        dueValue(7, 31, 31, "00".repeat(15) + "01", "0." + "0".repeat(30) + "1");
        dueStored(TIMES_TEN_TO, "0." + "0".repeat(30) + "1", "31", form(5, 1, 0), 7, "1C");
        dueStored(TIMES_TEN_TO, "0." + "0".repeat(30) + "1", "32", form(5, 2, 0), 7, "010C");
    }

    private static void minusZero() {
        int[] usages = {0, 1, 2, 3, 5, 9, 10, 11};
        String[] minus = {"F0D0", "D0F0", "F0F060", "60F0F0", "000D", "80000000", "8000000000000000", "00300030002D"};
        for (int k = 0; k < usages.length; k++) {
            PackedDecimals x = new PackedDecimals();
            int zero = Bytes.made(x, usages[k], 2, 1, minus[k]);
            int into = x.number(usages[k], 2, 1);
            int two = Bytes.decimal(x, "2");
            String call = " of minus zero, usage " + usages[k];
            CHECK.due("valid" + call, x.valid(zero), true);
            CHECK.due("against 0" + call, x.compare(zero, Bytes.decimal(x, "0")), 0);
            CHECK.due("0 against it" + call, x.compare(Bytes.decimal(x, "0"), zero), 0);
            CHECK.due("against -0.1" + call, x.compare(zero, Bytes.decimal(x, "-0.1")), 1);
            CHECK.due("against 0.1" + call, x.compare(zero, Bytes.decimal(x, "0.1")), -1);
            CHECK.due("half" + call, x.half(zero), 0);
            CHECK.due("2 by it" + call, x.apply(DIVIDE, two, zero, into), 0);
            CHECK.dueThrow("2 by its whole part" + call, ARITHMETIC, () -> x.apply(4, two, zero, into));
            CHECK.due("times -2" + call, x.apply(2, zero, Bytes.decimal(x, "-2"), into), 1);
            CHECK.due("times -2, bytes" + call, Bytes.of(x, into), ZEROS[usages[k]]);
            CHECK.due("moved" + call, x.convert(zero, into), 1);
            CHECK.due("moved, bytes" + call, Bytes.of(x, into), ZEROS[usages[k]]);
            CHECK.due("moved where no sign is" + call, x.convert(zero, x.number(6, 2, 1)), 1);
        }
        dueValue(0, 1, 0, "B0", "0");
        dueValue(5, 1, 0, "0B", "0");
    }

    private static void rounding(int kind) {
        for (String[] row : ROUNDED) {
            dueStored(row[0], form(5, 3, 0), kind, packed(row[1 + kind], 3));
            dueStored(row[0], form(7, 2, 0), kind, Bytes.complement(new BigInteger(row[1 + kind]), 2));
            dueStored(row[0], form(8, 2, 0), kind, Bytes.complement(new BigInteger(row[1 + kind]), 2));
            // The same a thousand times less, at a scale that is a thousand times finer.
            dueStored(TIMES_TEN_TO, row[0], "-3", form(5, 3, 3), kind, packed(row[1 + kind], 3));
        }
        String[][] quotients = {
            {"1", "3", "0", "0", "0", "0", "1", "1", "0"},
            {"-1", "3", "0", "0", "0", "0", "-1", "0", "-1"},
            {"-2", "-3", "0", "1", "1", "1", "1", "1", "0"},
            {"2", "-3", "0", "-1", "-1", "-1", "-1", "0", "-1"},
            {"3", "-2", "-1", "-2", "-2", "-1", "-2", "-1", "-2"},
            {"5", "2", "2", "3", "2", "2", "3", "3", "2"},
        };
        for (String[] row : quotients) {
            dueStored(DIVIDE, row[0], row[1], form(5, 3, 0), kind, packed(row[2 + kind], 3));
        }
    }

    private static void roundingNotAtAll() {
        for (String[] row : ROUNDED) {
            boolean good = row[8].equals("yes");
            dueStored(row[0], form(5, 3, 0), 7, good ? packed(row[1], 3) : SIZE_ERROR);
            dueStored(row[0], form(8, 3, 0), 7, good ? Bytes.complement(new BigInteger(row[1]), 2) : SIZE_ERROR);
        }
        dueStored("0.12", form(5, 3, 2), 7, "012C");
        dueStored("0.120", form(5, 3, 2), 7, "012C");
        dueStored("0.121", form(5, 3, 2), 7, SIZE_ERROR);
        dueStored(DIVIDE, "1", "8", form(5, 3, 3), 7, "125C");
        dueStored(DIVIDE, "1", "3", form(5, 3, 3), 7, SIZE_ERROR);
        dueStored("-12", form(4, 2, 0), 7, "F1F2");
    }

    private static void tooManyDigits() {
        for (int k = 0; k < DECIMAL.length; k++) {
            int[] tenths = form(DECIMAL[k], 3, 1);
            dueStored("99.9", tenths, 0, NINES[k]);
            dueStored("100", tenths, 0, SIZE_ERROR);
            dueStored("-99.9", tenths, 0, MINUS_NINES[k]);
            dueStored("-100", tenths, 0, SIZE_ERROR);
            dueStored("0.999", form(DECIMAL[k], 3, 3), 7, NINES[k]);
            dueStored("1", form(DECIMAL[k], 3, 3), 7, SIZE_ERROR);
            // Digits behind the scale are not too many, unless rounding carries into one more ahead.
            dueStored("99.99", tenths, 0, NINES[k]);
            dueStored("99.95", tenths, 3, NINES[k]);
            dueStored("99.95", tenths, 1, SIZE_ERROR);
            dueStored("-99.95", tenths, 6, SIZE_ERROR);
            dueStored(TIMES_TEN_TO, "1", "31", form(DECIMAL[k], 31, 0), 0, SIZE_ERROR);
            dueStored(TIMES_TEN_TO, "1", "0", form(DECIMAL[k], 31, 31), 0, SIZE_ERROR);
        }
        dueStored("9".repeat(31), form(5, 31, 0), 7, "9".repeat(31) + "C");
        dueStored("-" + "9".repeat(31), form(7, 31, 0), 7, Bytes.complement(BigInteger.ONE.subtract(tenTo(31)), 16));
    }

    private static void wholeSizeErrors() {
        for (int n : new int[] {1, 5, 10}) {
            int bytes = binaryBytes(n);
            BigInteger end = BigInteger.TWO.pow(8 * bytes - 1);
            String least = "80" + "00".repeat(bytes - 1);
            String most = "7F" + "FF".repeat(bytes - 1);
            int[] into = form(8, n, 0);
            dueStored(end.subtract(BigInteger.ONE).toString(), into, 0, most);
            dueStored(end.toString(), into, 0, SIZE_ERROR);
            dueStored(end.negate().toString(), into, 0, least);
            dueStored(end.not().toString(), into, 0, SIZE_ERROR);
            dueStored(end.subtract(BigInteger.ONE) + ".5", into, 3, most);
            dueStored(end.subtract(BigInteger.ONE) + ".5", into, 1, SIZE_ERROR);
            dueStored(end.negate() + ".5", into, 5, least);
            dueStored(end.negate() + ".5", into, 6, SIZE_ERROR);
        }
        dueStored("3276.7", form(8, 1, 1), 7, "7FFF");
        dueStored("3276.8", form(8, 1, 1), 7, SIZE_ERROR);
        // 16 bytes: the least one by -1 is one too great, and by 1 is itself.
        dueLeastWhole("-1", 0, "5A".repeat(16));
        dueLeastWhole("1", 1, "80" + "00".repeat(15));
    }

    private static void dueLeastWhole(String factor, int answer, String want) {
        PackedDecimals x = new PackedDecimals();
        int least = Bytes.made(x, 8, 31, 0, "80" + "00".repeat(15));
        int into = Bytes.made(x, 8, 31, 0, "5A".repeat(16));
        CHECK.due("-2 to the 127 times " + factor, x.apply(2, least, Bytes.decimal(x, factor), into), answer);
        CHECK.due("its bytes", Bytes.of(x, into), want);
    }

    private static void withoutSign() {
        dueStored("-12", form(4, 2, 0), 0, "F1F2");
        dueStored("-12", form(6, 2, 0), 0, "012F");
        dueStored("-99.9", form(4, 3, 1), 0, "F9F9F9");
        dueStored("-100", form(4, 2, 0), 0, SIZE_ERROR);
        dueStored("-100", form(6, 2, 0), 0, SIZE_ERROR);
        dueStored("12", form(4, 2, 0), 0, "F1F2");
        // The value is rounded with its sign, and its size is stored.
        dueStored("-2.5", form(4, 1, 0), 5, "F2");
        dueStored("-2.5", form(4, 1, 0), 6, "F3");
        dueStored("-2.5", form(6, 1, 0), 5, "2F");
        dueStored("-2.5", form(6, 1, 0), 6, "3F");
    }

    private static void zeroWithPlus() {
        for (int usage = 0; usage < 12; usage++) {
            int[] into = form(usage, 2, 0);
            dueStored("0", into, 0, ZEROS[usage]);
            dueStored("0", into, 7, ZEROS[usage]);
            dueStored(1, "-5", "-5", into, 0, ZEROS[usage]);
            dueStored(2, "-5", "0", into, 6, ZEROS[usage]);
            dueStored(6, "-6", "3", into, 6, ZEROS[usage]);
            dueStored(7, "-6", "3", into, 6, ZEROS[usage]);
            dueStored(4, "-2", "3", into, 6, ZEROS[usage]);
            if (usage != 9 && usage != 10) {
                dueStored("-0.5", into, 0, ZEROS[usage]);
                dueStored("-0.5", into, 3, ZEROS[usage]);
                dueStored("-0.5", into, 5, ZEROS[usage]);
            }
        }
        dueStored(TIMES_TEN_TO, "-1", "-32", form(9, 2, 0), 0, ZEROS[9]);
        dueStored(TIMES_TEN_TO, "-1", "-32", form(10, 2, 0), 0, ZEROS[10]);
    }

    private static void nearestFloating() {
        int[] single = form(9, 1, 0);
        int[] twice = form(10, 1, 0);
        // No rounding but 7 matters here.
        for (int kind = 0; kind < 7; kind++) {
            dueStored("0.1", single, kind, "3DCCCCCD");
            dueStored("-0.1", single, kind, "BDCCCCCD");
            dueStored("0.3", single, kind, "3E99999A");
            dueStored("0.7", single, kind, "3F333333");
            dueStored("0.1", twice, kind, "3FB999999999999A");
            dueStored("-0.3", twice, kind, "BFD3333333333333");
            dueStored(DIVIDE, "1", "3", single, kind, "3EAAAAAB");
            dueStored(DIVIDE, "1", "3", twice, kind, "3FD5555555555555");
        }
    }

    private static void halvesOfFloating() {
        int[] single = form(9, 1, 0);
        int[] twice = form(10, 1, 0);
        for (int kind = 0; kind < 7; kind++) {
            dueStored("16777217", single, kind, "4B800000");
            dueStored("16777217.00000000000000000000001", single, kind, "4B800001");
            dueStored("16777216.99999999999999999999999", single, kind, "4B800000");
            dueStored("16777219", single, kind, "4B800002");
            dueStored("-16777219", single, kind, "CB800002");
            dueStored("16777218.99999999999999999999999", single, kind, "4B800001");
            dueStored("16777215.5", single, kind, "4B800000");
            dueStored("8388609.5", single, kind, "4B000002");
            dueStored("8388610.5", single, kind, "4B000002");
            dueStored("9007199254740993", twice, kind, "4340000000000000");
            dueStored("9007199254740993.00000000000001", twice, kind, "4340000000000001");
            dueStored("9007199254740995", twice, kind, "4340000000000002");
            dueStored("9007199254740994.99999999999999", twice, kind, "4340000000000001");
            dueStored("9007199254740991.5", twice, kind, "4340000000000000");
        }
    }

    private static void floatingNotAtAll() {
        int[] single = form(9, 1, 0);
        int[] twice = form(10, 1, 0);
        dueStored("0.5", single, 7, "3F000000");
        dueStored("-0.5", twice, 7, "BFE0000000000000");
        dueStored("0.1", single, 7, SIZE_ERROR);
        dueStored("0.1", twice, 7, SIZE_ERROR);
        dueStored("16777215", single, 7, "4B7FFFFF");
        dueStored("16777217", single, 7, SIZE_ERROR);
        dueStored("16777217", twice, 7, "4170000010000000");
        dueStored("9007199254740993", twice, 7, SIZE_ERROR);
        dueStored("9007199254740994", twice, 7, "4340000000000001");
        dueStored(DIVIDE, "1", "3", twice, 7, SIZE_ERROR);
        dueStored("0", single, 7, ZEROS[9]);
        // What is stored for a value that is too small is 0, and not just the value.
        dueStored(TIMES_TEN_TO, "1", "-32", single, 7, SIZE_ERROR);
        dueStored(TIMES_TEN_TO, "1", "-32", twice, 7, SIZE_ERROR);
        dueStored(TIMES_TEN_TO, "1", "-31", twice, 7, SIZE_ERROR);
        dueStored(TIMES_TEN_TO, "1", "31", twice, 7, SIZE_ERROR);
    }

    private static void tooSmallForFloating() {
        int[] single = form(9, 1, 0);
        int[] twice = form(10, 1, 0);
        // The nearest one counts, not the value: halfway between the last float that is too small and
        // the first that is not stands 1.0000000384359073756 .. times 10 to the -31.
        dueStored(TIMES_TEN_TO, "1", "-31", single, 0, ZEROS[9]);
        dueStored(TIMES_TEN_TO, "1.00000003843590737", "-31", single, 0, ZEROS[9]);
        dueStored(TIMES_TEN_TO, "1.00000003843590738", "-31", single, 0, "0C01CEB4");
        dueStored(TIMES_TEN_TO, "-1.00000003843590737", "-31", single, 0, ZEROS[9]);
        dueStored(TIMES_TEN_TO, "-1.00000003843590738", "-31", single, 0, "8C01CEB4");
        // For doubles it is 0.99999999999999997385997808 .. times 10 to the -31.
        dueStored(TIMES_TEN_TO, "1", "-31", twice, 0, "398039D665896880");
        dueStored(TIMES_TEN_TO, "0.99999999999999997386", "-31", twice, 0, "398039D665896880");
        dueStored(TIMES_TEN_TO, "0.99999999999999997385", "-31", twice, 0, ZEROS[10]);
        dueStored(TIMES_TEN_TO, "-0.99999999999999997386", "-31", twice, 0, "B98039D665896880");
        dueStored(TIMES_TEN_TO, "-0.99999999999999997385", "-31", twice, 0, ZEROS[10]);
        for (int kind = 0; kind < 7; kind++) {
            dueStored(TIMES_TEN_TO, "0." + "0".repeat(30) + "1", "-40", single, kind, ZEROS[9]);
            dueStored(TIMES_TEN_TO, "0." + "0".repeat(30) + "1", "-40", twice, kind, ZEROS[10]);
        }
    }

    private static void tooGreatForFloating() {
        int[] single = form(9, 1, 0);
        int[] twice = form(10, 1, 0);
        // The nearest one counts, not the value: halfway between the last float that is not too great and
        // the first that is stands 10000000150474662198766888550400.
        dueStored(TIMES_TEN_TO, "1", "31", single, 0, "72FC6F7C");
        dueStored(TIMES_TEN_TO, "1.000000015047466219", "31", single, 0, "72FC6F7C");
        dueStored(TIMES_TEN_TO, "1.00000001504746621987668885504", "31", single, 0, "72FC6F7C");
        dueStored(TIMES_TEN_TO, "1.000000015047466219876688855041", "31", single, 0, SIZE_ERROR);
        dueStored(TIMES_TEN_TO, "-1.000000015047466219", "31", single, 0, "F2FC6F7C");
        dueStored(TIMES_TEN_TO, "-1.00000001504746622", "31", single, 0, SIZE_ERROR);
        // For doubles it is 10000000000000000198846248386560.
        dueStored(TIMES_TEN_TO, "1", "31", twice, 0, "465F8DEF8808B024");
        dueStored(TIMES_TEN_TO, "1.000000000000000019884624838656", "31", twice, 0, "465F8DEF8808B024");
        dueStored(TIMES_TEN_TO, "1.000000000000000019884624838657", "31", twice, 0, SIZE_ERROR);
        dueStored(TIMES_TEN_TO, "-1.000000000000000019884624838657", "31", twice, 0, SIZE_ERROR);
        for (int kind = 0; kind < 8; kind++) {
            dueStored(TIMES_TEN_TO, "9".repeat(31), "40", single, kind, SIZE_ERROR);
            dueStored(TIMES_TEN_TO, "9".repeat(31), "40", twice, kind, SIZE_ERROR);
        }
    }

    private static void sizeErrorsLeaveAll() {
        String[] before = {"F1D2", "B1F2", "F1F260", "60F1F2", "F1F2", "012E", "012F", "FFF4", "FFF4", "C1400000",
            "C028000000000000", "00310032002D"};
        for (int usage = 0; usage < 12; usage++) {
            PackedDecimals x = new PackedDecimals();
            int into = Bytes.made(x, usage, 2, 1, before[usage]);
            int great = Bytes.decimal(x, "9".repeat(31));
            x.round(into, 6);
            String call = " into usage " + usage;
            CHECK.due("too great" + call, x.apply(2, great, great, into), 0);
            CHECK.due("by zero" + call, x.apply(DIVIDE, great, Bytes.decimal(x, "0"), into), 0);
            CHECK.due("a remainder by zero" + call, x.apply(6, great, Bytes.decimal(x, "0"), into), 0);
            CHECK.due("its rounding" + call, x.round(into, 7), 6);
            CHECK.due("not rounded" + call, x.apply(DIVIDE, great, Bytes.decimal(x, "7"), into), 0);
            CHECK.due("its rounding" + call, x.round(into, 7), 7);
            CHECK.due("its bytes" + call, Bytes.of(x, into), before[usage]);
        }
    }

    private static void numbers() {
        CHECK.sentence("\"An object is used for at most 512 calls\"", TermsTest::calls);
        CHECK.sentence("Terms: \"a count of DIGITS n (1 .. 31)\"", TermsTest::countsOfDigits);
        CHECK.sentence("Terms: \"a SCALE s (0 .. n)\"", TermsTest::scales);
        CHECK.sentence("Terms: \"a row of BYTES (0 at first)\"", TermsTest::bytesAtFirst);
        CHECK.sentence("Terms: \"a ROUNDING (0 at first)\"", TermsTest::roundingAtFirst);
    }

    private static void usages() {
        CHECK.sentence("Terms: \"0 ZONED, sign behind: n bytes Fd, the last one Sd\"", TermsTest::zonedSignBehind);
        CHECK.sentence("Terms: \"1 ZONED, sign ahead: the first one Sd\"", TermsTest::zonedSignAhead);
        CHECK.sentence("Terms: \"S is A, C, E, F for plus, B, D for minus\"", TermsTest::zonedSigns);
        CHECK.sentence("Terms: \"(written: C, D)\"", TermsTest::zonedSignsWritten);
        CHECK.sentence("Terms: \"2 ZONED with a byte 4E (plus) or 60 (minus) behind\"", TermsTest::zonedSignByteBehind);
        CHECK.sentence("Terms: \"3 ahead\"", TermsTest::zonedSignByteAhead);
        CHECK.sentence("Terms: \"4 ZONED without a sign: Fd alone\"", TermsTest::zonedWithoutSign);
        CHECK.sentence("Terms: \"5 PACKED: n / 2 + 1 bytes, their halves: a 0 if n is even, the digits, the sign\"",
                TermsTest::packedHalves);
        CHECK.sentence("Terms: \"(A, C, E, F plus, B, D minus; written: C, D)\"", TermsTest::packedSigns);
        CHECK.sentence("Terms: \"6 PACKED without a sign: F in its place\"", TermsTest::packedWithoutSign);
        CHECK.sentence("Terms: \"7 BINARY: 2, 4, 8, 16 bytes (n to 4, 9, 18, 31)\"", TermsTest::binarySizes);
        CHECK.sentence("Terms: \"the highest first, negative ones as complements of two\"",
                TermsTest::binaryComplements);
        CHECK.sentence("Terms: \"less than 10 to the n\"", TermsTest::binaryBounds);
        CHECK.sentence("Terms: \"8 WHOLE: likewise, all that the bytes hold\"", TermsTest::wholeBounds);
        CHECK.sentence("Terms: \"9 FLOAT, 10 DOUBLE: 4, 8 bytes of a binary floating number as in IEEE 754\"",
                TermsTest::floatingBits);
        CHECK.sentence("Terms: \"0, or of a size from 10 to the -31\"", TermsTest::floatingLeast);
        CHECK.sentence("Terms: \"to less than 10 to the 31\"", TermsTest::floatingEnd);
        CHECK.sentence("Terms: \"(n and s must be as told, too, but don't matter)\"",
                TermsTest::floatingDigitsAndScale);
        CHECK.sentence("Terms: \"11 NATIONAL: 00 3d for each digit, then 00 2B (plus) or 00 2D (minus)\"",
                TermsTest::national);
        CHECK.sentence("Terms: \"its VALUE is its whole number divided by 10 to the s\"", TermsTest::valuesByScale);
        CHECK.sentence("Terms: \"Minus zero is zero.\"", TermsTest::minusZero);
    }

    private static void storing() {
        CHECK.sentence("Terms: \"0 to zero\"", () -> rounding(0));
        CHECK.sentence("Terms: \"1 to the nearest one, halves away from zero\"", () -> rounding(1));
        CHECK.sentence("Terms: \"2 halves to the even one\"", () -> rounding(2));
        CHECK.sentence("Terms: \"3 halves to zero\"", () -> rounding(3));
        CHECK.sentence("Terms: \"4 away from zero\"", () -> rounding(4));
        CHECK.sentence("Terms: \"5 up\"", () -> rounding(5));
        CHECK.sentence("Terms: \"6 down\"", () -> rounding(6));
        CHECK.sentence("Terms: \"7 not at all: a value that would have to be is a SIZE ERROR\"",
                TermsTest::roundingNotAtAll);
        CHECK.sentence("Terms: \"One that has more than n digits is one, too.\"", TermsTest::tooManyDigits);
        CHECK.sentence("Terms: \"(of 8: that its bytes don't hold)\"", TermsTest::wholeSizeErrors);
        CHECK.sentence("Terms: \"Without a sign its size is stored.\"", TermsTest::withoutSign);
        CHECK.sentence("Terms: \"Zero is written with plus.\"", TermsTest::zeroWithPlus);
        CHECK.sentence("Terms: \"In 9 and 10 the nearest one is stored\"", TermsTest::nearestFloating);
        CHECK.sentence("Terms: \"halves to the even one\", in 9 and 10", TermsTest::halvesOfFloating);
        CHECK.sentence("Terms: \"(by rounding 7 what is stored must be just the value)\"", TermsTest::floatingNotAtAll);
        CHECK.sentence("Terms: \"0, if that one is less than 10 to the -31\"", TermsTest::tooSmallForFloating);
        CHECK.sentence("Terms: \"a size error, if it is 10 to the 31 or more\"", TermsTest::tooGreatForFloating);
        CHECK.sentence("Terms: \"A size error leaves the number as it is.\"", TermsTest::sizeErrorsLeaveAll);
    }

    public static void main(String[] args) {
        numbers();
        usages();
        storing();
        CHECK.end("TermsTest");
    }
}
