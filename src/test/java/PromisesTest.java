/** The promises one by one, with answers worked out by hand from the document's words. */
public final class PromisesTest {
    private static final Check CHECK = new Check();
    private static final Class<?> BOUNDS = ArrayIndexOutOfBoundsException.class;
    private static final Class<?> NEGATIVE = NegativeArraySizeException.class;
    private static final Class<?> ARITHMETIC = ArithmeticException.class;

    private static void dueValid(int usage, int digits, String hex, boolean want) {
        PackedDecimals x = new PackedDecimals();
        int number = Bytes.made(x, usage, digits, 0, hex);
        CHECK.due("size of usage " + usage + ", " + digits, x.size(number), hex.length() / 2);
        CHECK.due("valid: usage " + usage + ", " + digits + " digits, " + hex, x.valid(number), want);
        CHECK.due("bytes are left alone", Bytes.of(x, number), hex);
    }

    private static void promise1() {
        CHECK.section("promise 1");
        PackedDecimals x = new PackedDecimals();
        CHECK.dueThrow("size(0)", BOUNDS, () -> x.size(0));
        CHECK.due("the first number", x.number(0, 1, 0), 0);
        PackedDecimals y = new PackedDecimals();
        CHECK.dueThrow("size(0) of another object", BOUNDS, () -> y.size(0));
    }

    private static void promise2() {
        CHECK.section("promise 2");
        PackedDecimals x = new PackedDecimals();
        int[][] wrong = {{-1, 1, 0}, {12, 1, 0}, {0, 0, 0}, {0, 32, 0}, {0, 3, -1}, {0, 3, 4}, {9, 0, 0}, {9, 3, 4},
            {Integer.MIN_VALUE, 1, 0}, {0, Integer.MAX_VALUE, 0}, {0, 1, Integer.MAX_VALUE}};
        for (int[] w : wrong) {
            CHECK.due("number(" + w[0] + ", " + w[1] + ", " + w[2] + ")", x.number(w[0], w[1], w[2]), PackedDecimals.NONE);
        }
        CHECK.dueThrow("digits -1", NEGATIVE, () -> x.number(0, -1, 0));
        CHECK.dueThrow("digits -1, all wrong", NEGATIVE, () -> x.number(99, Integer.MIN_VALUE, -7));
        for (int i = 0; i < 64; i++) {
            int digits = 1 + i % 31;
            CHECK.due("number " + i, x.number(i % 12, digits, i % 2 == 0 ? 0 : digits), i);
        }
        CHECK.due("the 65th", x.number(0, 1, 0), PackedDecimals.NONE);
        CHECK.dueThrow("digits -1 as the 65th", NEGATIVE, () -> x.number(0, -1, 0));
        CHECK.due("bytes at first", Bytes.of(x, 0), "00");
        CHECK.due("rounding at first", x.round(0, 0), 0);
    }

    private static void promises3And4() {
        CHECK.section("promises 3 and 4");
        PackedDecimals x = new PackedDecimals();
        int a = x.number(0, 3, 0);
        int b = x.number(11, 1, 0);
        x.octet(a, 0, (byte) -128);
        x.octet(a, 2, (byte) 127);
        CHECK.due("at(a, 0)", x.at(a, 0), -128);
        CHECK.due("at(a, 1)", x.at(a, 1), 0);
        CHECK.due("at(a, 2)", x.at(a, 2), 127);
        CHECK.due("the other number", Bytes.of(x, b), "00000000");
        int[][] wrong = {{a, -1}, {a, 3}, {b, 4}, {-1, 0}, {2, 0}, {64, 0}, {Integer.MIN_VALUE, 0},
            {a, Integer.MAX_VALUE}, {a, Integer.MIN_VALUE}};
        for (int[] w : wrong) {
            CHECK.dueThrow("at(" + w[0] + ", " + w[1] + ")", BOUNDS, () -> x.at(w[0], w[1]));
            CHECK.dueThrow("octet(" + w[0] + ", " + w[1] + ")", BOUNDS, () -> {
                x.octet(w[0], w[1], (byte) 1);
                return 0;
            });
        }
        CHECK.due("bytes after wrong calls", Bytes.of(x, a), "80007F");
    }

    private static void promise5() {
        CHECK.section("promise 5");
        for (int n = 1; n <= 31; n++) {
            PackedDecimals x = new PackedDecimals();
            int binary = n <= 4 ? 2 : n <= 9 ? 4 : n <= 18 ? 8 : 16;
            int[] want = {n, n, n + 1, n + 1, n, n / 2 + 1, n / 2 + 1, binary, binary, 4, 8, 2 * n + 2};
            for (int usage = 0; usage < 12; usage++) {
                CHECK.due("size of usage " + usage + ", " + n, x.size(x.number(usage, n, n)), want[usage]);
            }
            CHECK.dueThrow("size(12)", BOUNDS, () -> x.size(12));
            CHECK.dueThrow("size(-1)", BOUNDS, () -> x.size(-1));
        }
    }

    /** op on a and b (packed, of 15 digits and scale 2, in hundredths), stored in a new number of a usage. */
    private static void dueApply(int op, long a, long b, int[] into, int answer, String hex) {
        PackedDecimals x = new PackedDecimals();
        int left = Bytes.made(x, 5, 15, 2, String.format("%015d", Math.abs(a)) + (a < 0 ? "D" : "C"));
        int right = Bytes.made(x, 5, 15, 2, String.format("%015d", Math.abs(b)) + (b < 0 ? "D" : "C"));
        int target = x.number(into[0], into[1], into[2]);
        x.round(target, into[3]);
        String call = "op " + op + " of " + a + " and " + b + " into " + java.util.Arrays.toString(into);
        CHECK.due(call, x.apply(op, left, op == 5 ? (int) b : right, target), answer);
        CHECK.due(call + ": bytes", Bytes.of(x, target), hex);
    }

    private static void promise6Operations() {
        CHECK.section("promise 6, operations");
        int[] packed = {5, 5, 1, 0};
        dueApply(0, 1250, -250, packed, 1, "00100C");
        dueApply(0, -1250, 250, packed, 1, "00100D");
        dueApply(0, 1250, -1250, packed, 1, "00000C");
        dueApply(1, 250, 1250, packed, 1, "00100D");
        dueApply(1, 1250, 250, packed, 1, "00100C");
        dueApply(1, -1250, 250, packed, 1, "00150D");
        dueApply(2, -1250, 250, packed, 1, "00312D");
        dueApply(3, 1000, -300, packed, 1, "00033D");
        dueApply(3, 1000, 0, packed, 0, "000000");
        dueApply(4, -1799, 599, packed, 1, "00030D");
        dueApply(7, -1799, 599, packed, 1, "00020D");
        dueApply(5, 1250, 2, packed, 1, "12500C");
        dueApply(5, 1250, 3, packed, 0, "000000");
        dueApply(5, -125000, -3, packed, 1, "00012D");
        dueApply(5, 0, 40, packed, 1, "00000C");
        dueApply(5, 1, -40, packed, 1, "00000C");
        dueApply(5, 1, 41, packed, -2, "000000");
        dueApply(5, 1, -41, packed, -2, "000000");
        dueApply(6, -1250, 300, packed, 1, "00005D");
        dueApply(6, 1250, -300, packed, 1, "00005C");
        dueApply(6, 200, 300, packed, 1, "00020C");
        dueApply(6, 200, 0, packed, 0, "000000");
        dueApply(8, 200, 300, packed, -2, "000000");
        dueApply(-1, 200, 300, packed, -2, "000000");
    }

    private static void promise6Roundings() {
        CHECK.section("promise 6, roundings");
        // Hundredths a / b, and what each rounding makes of them at scale 0; 9 stands for a size error.
        int[][] rows = {
            {250, 100, 2, 3, 2, 2, 3, 3, 2, 9},
            {-250, 100, -2, -3, -2, -2, -3, -2, -3, 9},
            {350, 100, 3, 4, 4, 3, 4, 4, 3, 9},
            {-350, 100, -3, -4, -4, -3, -4, -3, -4, 9},
            {249, 100, 2, 2, 2, 2, 3, 3, 2, 9},
            {251, 100, 2, 3, 3, 3, 3, 3, 2, 9},
            {-251, 100, -2, -3, -3, -3, -3, -2, -3, 9},
            {50, 100, 0, 1, 0, 0, 1, 1, 0, 9},
            {-50, 100, 0, -1, 0, 0, -1, 0, -1, 9},
            {200, 300, 0, 1, 1, 1, 1, 1, 0, 9},
            {-100, 300, 0, 0, 0, 0, -1, 0, -1, 9},
            {-400, 100, -4, -4, -4, -4, -4, -4, -4, -4},
        };
        for (int[] row : rows) {
            for (int kind = 0; kind < 8; kind++) {
                int want = row[2 + kind];
                boolean good = want != 9;
                dueApply(3, row[0], row[1], new int[] {5, 3, 0, kind}, good ? 1 : 0,
                        good ? String.format("%03d", Math.abs(want)) + (want < 0 ? "D" : "C") : "0000");
            }
        }
        // The value is rounded with its sign, and its size is stored.
        dueApply(0, -250, 0, new int[] {4, 1, 0, 5}, 1, "F2");
        dueApply(0, -250, 0, new int[] {4, 1, 0, 6}, 1, "F3");
    }

    private static void promise6Usages() {
        CHECK.section("promise 6, usages");
        dueApply(0, -12300, 0, new int[] {0, 4, 0, 0}, 1, "F0F1F2D3");
        dueApply(0, 12300, 0, new int[] {0, 4, 0, 0}, 1, "F0F1F2C3");
        dueApply(0, -12300, 0, new int[] {0, 3, 0, 0}, 1, "F1F2D3");
        dueApply(0, -12300, 0, new int[] {0, 2, 0, 0}, 0, "0000");
        dueApply(0, -12300, 0, new int[] {1, 4, 0, 0}, 1, "D0F1F2F3");
        dueApply(0, 12300, 0, new int[] {1, 4, 1, 0}, 1, "C1F2F3F0");
        dueApply(0, -12300, 0, new int[] {2, 4, 0, 0}, 1, "F0F1F2F360");
        dueApply(0, 12300, 0, new int[] {2, 4, 0, 0}, 1, "F0F1F2F34E");
        dueApply(0, -12300, 0, new int[] {3, 4, 0, 0}, 1, "60F0F1F2F3");
        dueApply(0, 12300, 0, new int[] {3, 4, 0, 0}, 1, "4EF0F1F2F3");
        dueApply(0, -12300, 0, new int[] {4, 4, 0, 0}, 1, "F0F1F2F3");
        dueApply(0, -12300, 0, new int[] {5, 4, 0, 0}, 1, "00123D");
        dueApply(0, -12300, 0, new int[] {6, 4, 0, 0}, 1, "00123F");
        dueApply(0, -12300, 0, new int[] {6, 3, 0, 0}, 1, "123F");
        dueApply(0, -12300, 0, new int[] {7, 4, 0, 0}, 1, "FF85");
        dueApply(0, -12300, 0, new int[] {7, 5, 1, 0}, 1, "FFFFFB32");
        dueApply(0, 999900, 0, new int[] {7, 4, 0, 0}, 1, "270F");
        dueApply(0, 1000000, 0, new int[] {7, 4, 0, 0}, 0, "0000");
        dueApply(0, 1000000, 0, new int[] {8, 4, 0, 0}, 1, "2710");
        dueApply(0, 3276700, 0, new int[] {8, 1, 0, 0}, 1, "7FFF");
        dueApply(0, 3276800, 0, new int[] {8, 1, 0, 0}, 0, "0000");
        dueApply(0, -3276800, 0, new int[] {8, 1, 0, 0}, 1, "8000");
        dueApply(0, -3276900, 0, new int[] {8, 1, 0, 0}, 0, "0000");
        dueApply(0, -3276890, 0, new int[] {8, 1, 0, 0}, 1, "8000");
        dueApply(0, -12300, 0, new int[] {11, 4, 0, 0}, 1, "0030003100320033002D");
        dueApply(0, 0, 0, new int[] {11, 1, 1, 0}, 1, "0030002B");
        dueApply(0, -50, 0, new int[] {9, 1, 0, 0}, 1, "BF000000");
        dueApply(0, -50, 0, new int[] {10, 1, 0, 7}, 1, "BFE0000000000000");
        dueApply(0, 10, 0, new int[] {10, 1, 0, 0}, 1, "3FB999999999999A");
        dueApply(0, 10, 0, new int[] {10, 1, 0, 7}, 0, "0000000000000000");
        dueApply(3, 100, 300, new int[] {9, 1, 0, 4}, 1, "3EAAAAAB");
        dueApply(3, 100, 300, new int[] {10, 1, 0, 0}, 1, "3FD5555555555555");
        dueApply(1, 100, 100, new int[] {9, 1, 0, 7}, 1, "00000000");
        // Halves to the even one: 2 to the 24, plus 1 and plus 3.
        dueApply(0, 1677721700, 0, new int[] {9, 1, 0, 0}, 1, "4B800000");
        dueApply(0, 1677721900, 0, new int[] {9, 1, 0, 0}, 1, "4B800002");
        dueApply(0, 1677721701, 0, new int[] {9, 1, 0, 0}, 1, "4B800001");
        dueApply(5, 100, -31, new int[] {10, 1, 0, 0}, 1, "398039D665896880");
        dueApply(5, 100, -31, new int[] {10, 1, 0, 7}, 0, "0000000000000000");
        dueApply(5, 100, -31, new int[] {9, 1, 0, 0}, 1, "00000000");
        dueApply(5, -100, -40, new int[] {10, 1, 0, 0}, 1, "0000000000000000");
        dueApply(5, -100, -40, new int[] {10, 1, 0, 7}, 0, "0000000000000000");
        dueApply(5, 100, 31, new int[] {10, 1, 0, 0}, 1, "465F8DEF8808B024");
        dueApply(5, 100, 31, new int[] {9, 1, 0, 0}, 1, "72FC6F7C");
        dueApply(5, 101, 31, new int[] {9, 1, 0, 0}, 0, "00000000");
        dueApply(5, 100, 40, new int[] {9, 1, 0, 0}, 0, "00000000");
        dueApply(5, 100, 32, new int[] {10, 1, 0, 0}, 0, "0000000000000000");
    }

    private static void promise6Orders() {
        CHECK.section("promise 6, what goes ahead");
        PackedDecimals x = new PackedDecimals();
        int one = Bytes.made(x, 5, 1, 0, "1C");
        int zero = Bytes.made(x, 5, 1, 0, "0C");
        int tenth = Bytes.made(x, 5, 1, 1, "1D");
        int bad = Bytes.made(x, 5, 1, 0, "00");
        int into = Bytes.made(x, 5, 1, 0, "7D");
        CHECK.dueThrow("no a", BOUNDS, () -> x.apply(9, 5, one, into));
        CHECK.dueThrow("no b", BOUNDS, () -> x.apply(9, one, -1, into));
        CHECK.dueThrow("no into", BOUNDS, () -> x.apply(9, one, one, 5));
        CHECK.dueThrow("no into, not valid", BOUNDS, () -> x.apply(0, bad, bad, 5));
        CHECK.dueThrow("no a, wrong count", BOUNDS, () -> x.apply(5, 5, 41, into));
        CHECK.dueThrow("no into, wrong count", BOUNDS, () -> x.apply(5, one, 41, 5));
        CHECK.due("wrong op, not valid", x.apply(8, bad, bad, into), -2);
        CHECK.due("wrong count, not valid", x.apply(5, bad, Integer.MIN_VALUE, into), -2);
        CHECK.due("count that is no number", x.apply(5, zero, 40, into), 1);
        CHECK.due("its bytes", Bytes.of(x, into), "0C");
        for (int op = 0; op < 8; op++) {
            int wrong = op;
            CHECK.due("a not valid, op " + op, x.apply(op, bad, zero, into), PackedDecimals.NONE);
            if (op != 5) {
                CHECK.due("b not valid, op " + op, x.apply(op, one, bad, into), PackedDecimals.NONE);
            }
            if (op == 4 || op == 7) {
                CHECK.dueThrow("whole part 0, op " + op, ARITHMETIC, () -> x.apply(wrong, one, tenth, into));
                CHECK.dueThrow("zero, op " + op, ARITHMETIC, () -> x.apply(wrong, one, zero, into));
            }
        }
        CHECK.due("bytes left alone", Bytes.of(x, into), "0C");
        CHECK.due("into not valid", x.apply(0, one, one, bad), 1);
        CHECK.due("its bytes", Bytes.of(x, bad), "2C");
        CHECK.due("all the same number", x.apply(0, bad, bad, bad), 1);
        CHECK.due("its bytes", Bytes.of(x, bad), "4C");
    }

    private static void promise6WholeParts() {
        CHECK.section("promise 6, lowest 64 bits");
        PackedDecimals x = new PackedDecimals();
        int least = Bytes.made(x, 8, 18, 0, "8000000000000000");
        int minusOne = Bytes.made(x, 8, 18, 0, "FFFFFFFFFFFFFFFF");
        int above = Bytes.made(x, 8, 31, 0, "00000000000000010000000000000000");
        int aboveAndFive = Bytes.made(x, 8, 31, 0, "00000000000000010000000000000005");
        int into = x.number(8, 31, 0);
        CHECK.due("the least by -1", x.apply(4, least, minusOne, into), 1);
        CHECK.due("its bytes", Bytes.of(x, into), "FFFFFFFFFFFFFFFF8000000000000000");
        CHECK.due("its remainder", x.apply(7, least, minusOne, into), 1);
        CHECK.due("its bytes", Bytes.of(x, into), "00000000000000000000000000000000");
        CHECK.dueThrow("2 to the 64", ARITHMETIC, () -> x.apply(4, least, above, into));
        CHECK.due("2 to the 64 and 5", x.apply(4, aboveAndFive, minusOne, into), 1);
        CHECK.due("its bytes", Bytes.of(x, into), "FFFFFFFFFFFFFFFFFFFFFFFFFFFFFFFB");
        CHECK.due("the least by 5", x.apply(7, least, aboveAndFive, into), 1);
        CHECK.due("its bytes", Bytes.of(x, into), "FFFFFFFFFFFFFFFFFFFFFFFFFFFFFFFD");
        // A divisor for which the guess by its highest limbs is one too great.
        int high = Bytes.made(x, 8, 31, 0, "07FFFFFFF00000000000000000000000");
        int low = Bytes.made(x, 8, 31, 0, "00000000100000000000000000000001");
        CHECK.due("a close guess", x.apply(3, high, low, into), 1);
        CHECK.due("its bytes", Bytes.of(x, into), "0000000000000000000000007FFFFFFE");
    }

    private static void promise7() {
        CHECK.section("promise 7");
        PackedDecimals x = new PackedDecimals();
        int a = Bytes.made(x, 0, 3, 1, "F1F2D5");
        int b = Bytes.made(x, 10, 1, 0, "C029000000000000");
        int c = Bytes.made(x, 5, 3, 0, "012C");
        int d = Bytes.made(x, 11, 1, 0, "0030002D");
        int e = Bytes.made(x, 7, 1, 1, "0000");
        int bad = Bytes.made(x, 7, 1, 1, "000A");
        int tenth = Bytes.made(x, 5, 1, 1, "1C");
        int nearTenth = Bytes.made(x, 10, 1, 0, "3FB999999999999A");
        CHECK.due("-12.5 and -12.5", x.compare(a, b), 0);
        CHECK.due("-12.5 and 12", x.compare(a, c), -1);
        CHECK.due("12 and -12.5", x.compare(c, b), 1);
        CHECK.due("-0 and 0", x.compare(d, e), 0);
        CHECK.due("0 and -12.5", x.compare(d, a), 1);
        CHECK.due("itself", x.compare(c, c), 0);
        CHECK.due("0.1 and the double next to it", x.compare(tenth, nearTenth), -1);
        CHECK.due("that and 0.1", x.compare(nearTenth, tenth), 1);
        Bytes.load(x, nearTenth, "BFB999999999999A");
        Bytes.load(x, tenth, "1D");
        CHECK.due("both negative", x.compare(tenth, nearTenth), 1);
        CHECK.due("not valid", x.compare(bad, a), -2);
        CHECK.due("not valid", x.compare(a, bad), -2);
        CHECK.dueThrow("no such number", BOUNDS, () -> x.compare(bad, 8));
        CHECK.dueThrow("no such number", BOUNDS, () -> x.compare(-1, bad));
    }

    private static void promise8Zoned() {
        CHECK.section("promise 8, zoned");
        for (int sign = 0; sign < 16; sign++) {
            String s = Integer.toHexString(sign).toUpperCase();
            dueValid(0, 2, "F1" + s + "9", sign > 9);
            dueValid(1, 2, s + "9F1", sign > 9);
            dueValid(0, 1, s + "0", sign > 9);
            dueValid(1, 1, s + "0", sign > 9);
            dueValid(4, 2, "F1" + s + "9", sign == 15);
            dueValid(5, 1, "1" + s, sign > 9);
            dueValid(6, 1, "1" + s, sign == 15);
            dueValid(0, 2, "F1C" + s, sign < 10);
            dueValid(4, 1, "F" + s, sign < 10);
            dueValid(5, 3, "1" + s + "1C", sign < 10);
            dueValid(5, 2, s + "99C", sign == 0);
            dueValid(6, 2, s + "99F", sign == 0);
            dueValid(11, 1, "003" + s + "002B", sign < 10);
            dueValid(11, 1, "00" + s + "0002D", sign == 3);
        }
        dueValid(0, 2, "C1C1", false);
        dueValid(1, 2, "C1C1", false);
        dueValid(2, 2, "F1F24E", true);
        dueValid(2, 2, "F1F260", true);
        dueValid(2, 2, "F1C24E", false);
        dueValid(2, 2, "F1F24D", false);
        dueValid(2, 2, "F1F2F3", false);
        dueValid(3, 2, "4EF1F2", true);
        dueValid(3, 2, "60F1F2", true);
        dueValid(3, 2, "F1F24E", false);
        dueValid(3, 2, "61F1F2", false);
        dueValid(3, 1, "4EFA", false);
    }

    private static void promise8Others() {
        CHECK.section("promise 8, others");
        dueValid(5, 2, "000C", true);
        dueValid(5, 2, "0000", false);
        dueValid(7, 4, "270F", true);
        dueValid(7, 4, "2710", false);
        dueValid(7, 4, "D8F1", true);
        dueValid(7, 4, "D8F0", false);
        dueValid(7, 1, "8000", false);
        dueValid(8, 1, "8000", true);
        dueValid(7, 18, "0DE0B6B3A763FFFF", true);
        dueValid(7, 18, "0DE0B6B3A7640000", false);
        dueValid(7, 31, "0000007E37BE2022C0914B267FFFFFFF", true);
        dueValid(7, 31, "0000007E37BE2022C0914B2680000000", false);
        dueValid(8, 31, "80000000000000000000000000000000", true);
        dueValid(9, 1, "00000000", true);
        dueValid(9, 1, "80000000", true);
        dueValid(9, 1, "00000001", false);
        dueValid(9, 1, "0C01CEB3", false);
        dueValid(9, 1, "0C01CEB4", true);
        dueValid(9, 1, "8C01CEB4", true);
        dueValid(9, 1, "72FC6F7C", true);
        dueValid(9, 1, "F2FC6F7C", true);
        dueValid(9, 1, "72FC6F7D", false);
        dueValid(9, 1, "7F800000", false);
        dueValid(9, 1, "FFC00000", false);
        dueValid(10, 1, "398039D66589687F", false);
        dueValid(10, 1, "398039D665896880", true);
        dueValid(10, 1, "465F8DEF8808B024", true);
        dueValid(10, 1, "465F8DEF8808B025", false);
        dueValid(10, 1, "C65F8DEF8808B024", true);
        dueValid(10, 1, "FFF0000000000000", false);
        dueValid(10, 1, "7FF8000000000000", false);
        dueValid(11, 1, "0130002B", false);
        dueValid(11, 1, "0030012B", false);
        dueValid(11, 1, "0030002C", false);
        PackedDecimals x = new PackedDecimals();
        CHECK.dueThrow("no such number", BOUNDS, () -> x.valid(0) ? 1 : 0);
        CHECK.dueThrow("no such number", BOUNDS, () -> x.valid(-1) ? 1 : 0);
    }

    private static void dueConvert(int[] from, String hex, int[] to, int answer, String want) {
        PackedDecimals x = new PackedDecimals();
        int source = Bytes.made(x, from[0], from[1], from[2], hex);
        int target = x.number(to[0], to[1], to[2]);
        String call = "convert " + hex + " into " + java.util.Arrays.toString(to);
        CHECK.due(call, x.convert(source, target), answer);
        CHECK.due(call + ": bytes", Bytes.of(x, target), want);
        CHECK.due(call + ": the source", Bytes.of(x, source), hex);
    }

    private static void promise9() {
        CHECK.section("promise 9");
        int[] packed = {5, 5, 2};
        dueConvert(packed, "12345D", new int[] {0, 5, 2}, 1, "F1F2F3F4D5");
        dueConvert(packed, "12345D", new int[] {0, 4, 1}, 0, "F1F2F3D4");
        dueConvert(packed, "12345D", new int[] {1, 4, 2}, 0, "D2F3F4F5");
        dueConvert(packed, "12345D", new int[] {4, 5, 2}, 0, "F1F2F3F4F5");
        dueConvert(packed, "12345A", new int[] {4, 5, 2}, 1, "F1F2F3F4F5");
        dueConvert(packed, "12345D", new int[] {6, 5, 2}, 0, "12345F");
        dueConvert(packed, "12345B", new int[] {7, 2, 0}, 0, "FFE9");
        dueConvert(packed, "00005D", new int[] {0, 3, 1}, 0, "F0F0C0");
        dueConvert(packed, "10000D", new int[] {0, 2, 0}, 0, "F0C0");
        dueConvert(packed, "00000D", new int[] {4, 1, 0}, 1, "F0");
        dueConvert(packed, "00000D", new int[] {2, 1, 0}, 1, "F04E");
        dueConvert(packed, "12350D", new int[] {10, 1, 0}, 1, "C05EE00000000000");
        dueConvert(packed, "00010C", new int[] {10, 1, 0}, 0, "3FB999999999999A");
        dueConvert(packed, "0001CC", new int[] {10, 1, 0}, -1, "0000000000000000");
        dueConvert(new int[] {8, 9, 0}, "00010001", new int[] {8, 4, 0}, 0, "0001");
        dueConvert(new int[] {8, 9, 0}, "FFFF7FFF", new int[] {8, 4, 0}, 0, "7FFF");
        dueConvert(new int[] {8, 9, 0}, "FFFF8000", new int[] {8, 4, 0}, 1, "8000");
        dueConvert(new int[] {8, 9, 0}, "00007FFF", new int[] {8, 4, 4}, 0, "D8F0");
        dueConvert(new int[] {8, 9, 0}, "FFFF8000", new int[] {7, 4, 0}, 0, "F530");
        dueConvert(new int[] {8, 4, 4}, "8000", new int[] {5, 5, 4}, 1, "32768D");
        dueConvert(new int[] {9, 1, 0}, "C0200000", new int[] {11, 1, 0}, 0, "0032002D");
        dueConvert(new int[] {10, 1, 0}, "3FB999999999999A", new int[] {9, 1, 0}, 0, "3DCCCCCD");
        dueConvert(new int[] {9, 1, 0}, "3DCCCCCD", new int[] {10, 1, 0}, 1, "3FB99999A0000000");
        dueConvert(new int[] {10, 1, 0}, "8000000000000000", new int[] {9, 1, 0}, 1, "00000000");
        // 10 to the 31 is too great for a double or a float, but the nearest ones are less.
        dueConvert(new int[] {8, 31, 0}, "0000007E37BE2022C0914B2680000000", new int[] {10, 1, 0}, 0, "465F8DEF8808B024");
        dueConvert(new int[] {8, 31, 0}, "0000007E37BE2022C0914B2680000000", new int[] {9, 1, 0}, 0, "72FC6F7C");
        dueConvert(new int[] {8, 31, 0}, "7FFFFFFFFFFFFFFFFFFFFFFFFFFFFFFF", new int[] {9, 1, 0}, 0, "00000000");
        // 10 to the -31: the nearest float is less and so no float of the document's: 0, as in storing.
        dueConvert(new int[] {7, 31, 31}, "00000000000000000000000000000001", new int[] {10, 1, 0}, 0, "398039D665896880");
        dueConvert(new int[] {7, 31, 31}, "00000000000000000000000000000001", new int[] {9, 1, 0}, 0, "00000000");
    }

    private static void promise9Rest() {
        CHECK.section("promise 9, the rest");
        PackedDecimals x = new PackedDecimals();
        int a = Bytes.made(x, 5, 3, 1, "999C");
        int b = Bytes.made(x, 5, 1, 0, "00");
        CHECK.due("rounding does not matter", x.round(b, 4), 0);
        CHECK.due("into one that is not valid", x.convert(a, b), 0);
        CHECK.due("its bytes", Bytes.of(x, b), "9C");
        Bytes.load(x, a, "999B");
        CHECK.due("into itself", x.convert(a, a), 1);
        CHECK.due("its bytes", Bytes.of(x, a), "999D");
        Bytes.load(x, a, "9999");
        CHECK.due("not valid", x.convert(a, b), PackedDecimals.NONE);
        CHECK.due("bytes left alone", Bytes.of(x, b), "9C");
        int f = x.number(9, 1, 0);
        x.round(f, 7);
        CHECK.due("rounding 7 does not matter", x.convert(Bytes.made(x, 5, 1, 1, "1C"), f), 0);
        CHECK.due("its bytes", Bytes.of(x, f), "3DCCCCCD");
        CHECK.due("too great", x.convert(Bytes.made(x, 8, 31, 0, "40000000000000000000000000000000"), f), 0);
        CHECK.due("bytes left alone", Bytes.of(x, f), "3DCCCCCD");
        CHECK.dueThrow("no such number", BOUNDS, () -> x.convert(a, 9));
        CHECK.dueThrow("no such number", BOUNDS, () -> x.convert(9, b));
    }

    private static void promise10() {
        CHECK.section("promise 10");
        PackedDecimals x = new PackedDecimals();
        int a = Bytes.made(x, 0, 5, 2, "F1F2F3F4D5");
        int least = Bytes.made(x, 8, 31, 0, "80000000000000000000000000000000");
        String digits = "170141183460469231731687303715884105728";
        for (int i = 0; i < 39; i++) {
            CHECK.due("digit " + i, x.digit(a, i), i < 5 ? 5 - i : 0);
            CHECK.due("digit " + i + " of the least", x.digit(least, i), digits.charAt(38 - i) - '0');
        }
        for (int i : new int[] {-1, 39, Integer.MIN_VALUE, Integer.MAX_VALUE}) {
            CHECK.due("digit " + i, x.digit(a, i), PackedDecimals.NONE);
        }
        CHECK.due("of a float", x.digit(Bytes.made(x, 9, 1, 0, "3F800000"), 0), PackedDecimals.NONE);
        CHECK.due("of a double", x.digit(Bytes.made(x, 10, 1, 0, "3FF0000000000000"), 0), PackedDecimals.NONE);
        CHECK.due("of one that is not valid", x.digit(Bytes.made(x, 5, 1, 0, "11"), 0), PackedDecimals.NONE);
        CHECK.dueThrow("no such number", BOUNDS, () -> x.digit(5, 39));
        CHECK.dueThrow("no such number", BOUNDS, () -> x.digit(-1, 0));
    }

    private static void promise11() {
        CHECK.section("promise 11");
        PackedDecimals x = new PackedDecimals();
        int a = x.number(5, 1, 0);
        int b = x.number(9, 1, 0);
        for (int kind = 0; kind < 8; kind++) {
            CHECK.due("round(a, " + kind + ")", x.round(a, kind), Math.max(0, kind - 1));
        }
        for (int kind : new int[] {-1, 8, Integer.MIN_VALUE, Integer.MAX_VALUE}) {
            CHECK.due("round(a, " + kind + ")", x.round(a, kind), PackedDecimals.NONE);
        }
        CHECK.due("it stayed", x.round(a, 3), 7);
        CHECK.due("the other's", x.round(b, 7), 0);
        CHECK.dueThrow("no such number", BOUNDS, () -> x.round(2, 9));
        CHECK.dueThrow("no such number", BOUNDS, () -> x.round(-1, 0));
    }

    private static void promise12() {
        CHECK.section("promise 12");
        PackedDecimals x = new PackedDecimals();
        CHECK.due("-123.45", x.half(Bytes.made(x, 5, 5, 2, "12345D")), -123);
        CHECK.due("-0.99", x.half(Bytes.made(x, 5, 3, 2, "099D")), 0);
        CHECK.due("32768", x.half(Bytes.made(x, 4, 5, 0, "F3F2F7F6F8")), -32768);
        CHECK.due("-32769", x.half(Bytes.made(x, 7, 5, 0, "FFFF7FFF")), 32767);
        CHECK.due("65535", x.half(Bytes.made(x, 11, 5, 0, "00360035003500330035002B")), -1);
        CHECK.due("2.5", x.half(Bytes.made(x, 9, 1, 0, "40200000")), 2);
        CHECK.due("a double of 2 to the 100", x.half(Bytes.made(x, 10, 1, 0, "4630000000000000")), 0);
        CHECK.due("a double of -65537", x.half(Bytes.made(x, 10, 1, 0, "C0F0001000000000")), -1);
        CHECK.due("10 to the 31 less 1", x.half(Bytes.made(x, 7, 31, 0, "0000007E37BE2022C0914B267FFFFFFF")), -1);
        CHECK.due("not valid", x.half(Bytes.made(x, 5, 1, 0, "11")), 0);
        CHECK.dueThrow("no such number", BOUNDS, () -> x.half(10));
        CHECK.dueThrow("no such number", BOUNDS, () -> x.half(-1));
    }

    public static void main(String[] args) {
        promise1();
        promise2();
        promises3And4();
        promise5();
        promise6Operations();
        promise6Roundings();
        promise6Usages();
        promise6Orders();
        promise6WholeParts();
        promise7();
        promise8Zoned();
        promise8Others();
        promise9();
        promise9Rest();
        promise10();
        promise11();
        promise12();
        CHECK.end("PromisesTest");
    }
}
