import java.math.BigInteger;

/**
 * Each sentence of promises 1 to 12 that names a boundary case, with a test of its own: its words are
 * told beside the test, and by what the test prints when it fails.
 */
public final class BoundariesTest {
    private static final Check CHECK = new Check();
    private static final int NONE = PackedDecimals.NONE;
    private static final int LEAST = Integer.MIN_VALUE;
    private static final int MOST = Integer.MAX_VALUE;
    private static final Class<?> BOUNDS = ArrayIndexOutOfBoundsException.class;
    private static final Class<?> NEGATIVE = NegativeArraySizeException.class;
    private static final Class<?> ARITHMETIC = ArithmeticException.class;

    /** Two digits of each usage: -12 or 12 as each of them holds it, and bytes that are not valid. */
    private static final String[] TWELVE = {"F1D2", "D1F2", "F1F260", "60F1F2", "F1F2", "012D", "012F", "FFF4", "FFF4",
        "C1400000", "C028000000000000", "00310032002D"};
    private static final String[] NOT_VALID = {"F132", "11F2", "F1F2F0", "F0F1F2", "F1C2", "0123", "012C", "0064", "",
        "7FC00000", "7FF8000000000000", "003100320020"};

    /** A call on one number. */
    private interface OnNumber {
        long answer(PackedDecimals x, int number);
    }

    /** Throws for numbers below, behind and far off those that there are: none, three and 64 of them. */
    private static void dueNoSuchNumber(String call, OnNumber made) {
        for (int count : new int[] {0, 3, 64}) {
            PackedDecimals x = new PackedDecimals();
            for (int i = 0; i < count; i++) {
                Bytes.made(x, 5, 1, 0, "7D");
            }
            for (int number : new int[] {LEAST, -1, count, count + 1, 64, 65, MOST}) {
                CHECK.dueThrow(call + " of " + number + ", there being " + count, BOUNDS, () -> made.answer(x, number));
            }
            for (int i = 0; i < count; i += 3) {
                CHECK.due("the bytes of " + i + " after it", Bytes.of(x, i), "7D");
                CHECK.due("the rounding of " + i + " after it", x.round(i, 0), 0);
            }
        }
    }

    private static int octet(PackedDecimals x, int number, int i, int b) {
        x.octet(number, i, (byte) b);
        return 0;
    }

    private static void noNumbers() {
        PackedDecimals x = new PackedDecimals();
        CHECK.dueThrow("size(0)", BOUNDS, () -> x.size(0));
        CHECK.dueThrow("valid(0)", BOUNDS, () -> x.valid(0) ? 1 : 0);
        CHECK.dueThrow("apply(5, 0, 0, 0)", BOUNDS, () -> x.apply(5, 0, 0, 0));
        CHECK.due("the first number", x.number(0, 1, 0), 0);
        PackedDecimals y = new PackedDecimals();
        CHECK.dueThrow("size(0) of another object", BOUNDS, () -> y.size(0));
        CHECK.due("the first number of another object", y.number(0, 1, 0), 0);
    }

    private static void whichNumber() {
        PackedDecimals x = new PackedDecimals();
        for (int i = 0; i < 64; i++) {
            CHECK.due("number " + i, x.number(4, 1 + i % 31, 0), i);
        }
        for (int i = 0; i < 64; i++) {
            CHECK.due("size of number " + i, x.size(i), 1 + i % 31);
        }
    }

    /** NONE is answered, and no number is made. */
    private static void dueRefused(int usage, int digits, int scale) {
        PackedDecimals x = new PackedDecimals();
        x.number(5, 1, 0);
        CHECK.due("number(" + usage + ", " + digits + ", " + scale + ")", x.number(usage, digits, scale), NONE);
        CHECK.dueThrow("the size of what was refused", BOUNDS, () -> x.size(1));
        CHECK.due("the next number", x.number(5, 1, 0), 1);
    }

    private static void wrongUsage() {
        for (int usage : new int[] {LEAST, -1, 12, 13, MOST}) {
            dueRefused(usage, 1, 0);
        }
        PackedDecimals x = new PackedDecimals();
        CHECK.due("usage 0", x.number(0, 1, 0), 0);
        CHECK.due("usage 11", x.number(11, 1, 0), 1);
    }

    private static void wrongDigits() {
        for (int usage = 0; usage < 12; usage++) {
            dueRefused(usage, 0, 0);
            dueRefused(usage, 32, 0);
            dueRefused(usage, 32, 32);
            dueRefused(usage, MOST, 0);
        }
    }

    private static void wrongScale() {
        for (int usage = 0; usage < 12; usage++) {
            dueRefused(usage, 5, -1);
            dueRefused(usage, 5, 6);
            dueRefused(usage, 31, 32);
            dueRefused(usage, 1, LEAST);
            dueRefused(usage, 1, MOST);
        }
    }

    private static void sixtyFour() {
        PackedDecimals x = new PackedDecimals();
        for (int i = 0; i < 64; i++) {
            CHECK.due("number " + i, x.number(5, 1, 0), i);
        }
        Bytes.load(x, 0, "1C");
        Bytes.load(x, 63, "9D");
        CHECK.due("the 65th", x.number(5, 1, 0), NONE);
        CHECK.due("the 66th", x.number(0, 31, 31), NONE);
        CHECK.dueThrow("size(64)", BOUNDS, () -> x.size(64));
        CHECK.due("the first's bytes", Bytes.of(x, 0), "1C");
        CHECK.due("the last's bytes", Bytes.of(x, 63), "9D");
    }

    private static void digitsBelowZero() {
        PackedDecimals x = new PackedDecimals();
        for (int digits : new int[] {-1, -31, LEAST}) {
            for (int usage = -1; usage < 13; usage++) {
                int kind = usage;
                CHECK.dueThrow(digits + " digits of usage " + usage, NEGATIVE, () -> x.number(kind, digits, 0));
            }
            CHECK.dueThrow(digits + " digits, a wrong scale", NEGATIVE, () -> x.number(5, digits, -1));
        }
        for (int i = 0; i < 64; i++) {
            CHECK.due("number " + i + " after it", x.number(5, 1, 0), i);
        }
        CHECK.dueThrow("-1 digits, there being 64", NEGATIVE, () -> x.number(5, -1, 0));
    }

    /** Calls a method of bytes for each usage with bytes that a number of 31 digits has not. */
    private static void dueNoSuchByte(String call, boolean writing) {
        int[] sizes = {31, 31, 32, 32, 31, 16, 16, 16, 16, 4, 8, 64};
        for (int usage = 0; usage < 12; usage++) {
            PackedDecimals x = new PackedDecimals();
            int number = x.number(usage, 31, 0);
            int other = x.number(11, 31, 0);
            for (int i : new int[] {LEAST, -1, sizes[usage], sizes[usage] + 1, MOST}) {
                CHECK.dueThrow(call + " of byte " + i + " of usage " + usage, BOUNDS,
                        () -> writing ? octet(x, number, i, 1) : x.at(number, i));
            }
            CHECK.due("the bytes after it", Bytes.of(x, number), "00".repeat(sizes[usage]));
            CHECK.due("the other's bytes after it", Bytes.of(x, other), "00".repeat(64));
            int last = sizes[usage] - 1;
            x.octet(number, 0, (byte) -128);
            x.octet(number, last, (byte) 127);
            CHECK.due("the first byte of usage " + usage, x.at(number, 0), -128);
            CHECK.due("the last byte of usage " + usage, x.at(number, last), 127);
            CHECK.due("the one between", x.at(number, 1), 0);
        }
    }

    private static void sizes() {
        for (int n = 1; n <= 31; n++) {
            PackedDecimals x = new PackedDecimals();
            int binary = n <= 4 ? 2 : n <= 9 ? 4 : n <= 18 ? 8 : 16;
            int[] want = {n, n, n + 1, n + 1, n, n / 2 + 1, n / 2 + 1, binary, binary, 4, 8, 2 * n + 2};
            for (int usage = 0; usage < 12; usage++) {
                CHECK.due("size of usage " + usage + ", " + n, x.size(x.number(usage, n, n)), want[usage]);
            }
        }
    }

    /** What apply answers for two decimal texts, and the bytes that it leaves in a number with bytes of its own. */
    private static void dueApply(int op, String a, String b, int[] into, int answer, String want) {
        PackedDecimals x = new PackedDecimals();
        int target = x.number(into[0], into[1], into[2]);
        String before = "5A".repeat(x.size(target));
        Bytes.load(x, target, before);
        int left = Bytes.decimal(x, a);
        int right = op == 5 ? Integer.parseInt(b) : Bytes.decimal(x, b);
        String call = "op " + op + " of " + a + " and " + b;
        CHECK.due(call, x.apply(op, left, right, target), answer);
        CHECK.due(call + ": bytes", Bytes.of(x, target), answer == 1 ? want : before);
    }

    private static void operations() {
        int[] into = {5, 5, 2};
        dueApply(0, "1.25", "-0.5", into, 1, "00075C");
        dueApply(1, "1.25", "1.5", into, 1, "00025D");
        dueApply(2, "-1.25", "-1.5", into, 1, "00187C");
        dueApply(3, "-2", "3", into, 1, "00066D");
        dueApply(4, "-7.9", "2.9", into, 1, "00300D");
        dueApply(5, "-1.25", "2", into, 1, "12500D");
        dueApply(5, "-125", "-2", into, 1, "00125D");
        dueApply(6, "-7.9", "2.5", into, 1, "00040D");
        dueApply(7, "-7.9", "2.9", into, 1, "00100D");
        // t is rounded to zero and to a whole number; what is left bears a's sign.
        dueApply(6, "7.9", "-2.5", into, 1, "00040C");
        dueApply(6, "2.4", "2.5", into, 1, "00240C");
        dueApply(6, "5", "2.5", into, 1, "00000C");
        dueApply(6, "-" + "9".repeat(31), "7", into, 1, "00200D");
    }

    private static void applySizeErrors() {
        int[] into = {5, 1, 0};
        String[][] good = {{"0", "8", "1", "9C"}, {"1", "-8", "1", "9D"}, {"2", "-3", "3", "9D"},
            {"3", "18", "2", "9C"}, {"4", "19", "2", "9C"}, {"5", "0.9", "1", "9C"},
            {"6", "19", "10", "9C"}, {"7", "-19", "10", "9D"}};
        String[][] wrong = {{"0", "8", "2"}, {"1", "-8", "2"}, {"2", "-5", "2"}, {"3", "20", "2"}, {"4", "20", "2"},
            {"5", "1", "1"}, {"6", "21", "11"}, {"7", "-21", "11"}};
        for (String[] row : good) {
            dueApply(Integer.parseInt(row[0]), row[1], row[2], into, 1, row[3]);
        }
        for (String[] row : wrong) {
            dueApply(Integer.parseInt(row[0]), row[1], row[2], into, 0, "");
        }
    }

    private static void applyByZero() {
        for (int usage = 0; usage < 13; usage++) {
            PackedDecimals x = new PackedDecimals();
            int into = Bytes.made(x, usage % 12, 2, 0, TWELVE[usage % 12]);
            int five = Bytes.decimal(x, "5");
            int zero = usage < 12 ? x.number(usage, 2, 1) : Bytes.made(x, 10, 1, 0, "8000000000000000");
            if (usage < 12) {
                x.convert(Bytes.decimal(x, "0"), zero);
            }
            for (int op : new int[] {3, 6}) {
                CHECK.due("5 by a zero of usage " + usage + ", op " + op, x.apply(op, five, zero, into), 0);
                CHECK.due("0 by a zero of usage " + usage + ", op " + op, x.apply(op, zero, zero, into), 0);
            }
            CHECK.due("bytes after it", Bytes.of(x, into), TWELVE[usage % 12]);
        }
        // A tenth is not zero, though its whole part is.
        dueApply(3, "0.5", "0.1", new int[] {5, 1, 0}, 1, "5C");
        dueApply(6, "0.5", "0.2", new int[] {5, 1, 1}, 1, "1C");
    }

    private static void applyNotValid() {
        for (int usage = 0; usage < 12; usage++) {
            if (usage == 8) {
                continue;
            }
            PackedDecimals x = new PackedDecimals();
            int good = Bytes.made(x, usage, 2, 0, TWELVE[usage]);
            int bad = Bytes.made(x, usage, 2, 0, NOT_VALID[usage]);
            int into = Bytes.made(x, usage, 2, 0, TWELVE[usage]);
            for (int op = 0; op < 8; op++) {
                String call = ", op " + op + ", usage " + usage;
                CHECK.due("a is not valid" + call, x.apply(op, bad, good, into), NONE);
                CHECK.due("a and b are not valid" + call, x.apply(op, bad, bad, into), NONE);
                if (op != 5) {
                    CHECK.due("b is not valid" + call, x.apply(op, good, bad, into), NONE);
                }
            }
            CHECK.due("bytes after it", Bytes.of(x, into), TWELVE[usage]);
        }
        PackedDecimals x = new PackedDecimals();
        int bad = Bytes.made(x, 5, 1, 0, "00");
        int one = Bytes.made(x, 5, 1, 0, "1C");
        // Op 5's count is no number, so it is nothing to it that the number of that count is not valid.
        CHECK.due("the count " + bad, x.apply(5, one, bad, one), 1);
        CHECK.due("into is not valid", x.apply(0, Bytes.decimal(x, "3"), Bytes.decimal(x, "4"), bad), 1);
        CHECK.due("its bytes", Bytes.of(x, bad), "7C");
    }

    private static void applyWrongOp() {
        PackedDecimals x = new PackedDecimals();
        int a = Bytes.made(x, 5, 1, 0, "3C");
        int into = Bytes.made(x, 5, 1, 0, "7D");
        for (int op : new int[] {LEAST, -2, -1, 8, 9, MOST}) {
            CHECK.due("op " + op, x.apply(op, a, a, into), -2);
        }
        CHECK.due("bytes after it", Bytes.of(x, into), "7D");
        CHECK.due("op 0", x.apply(0, a, a, into), 1);
        CHECK.due("op 7", x.apply(7, a, a, into), 1);
    }

    private static void applyWrongCount() {
        PackedDecimals x = new PackedDecimals();
        int a = Bytes.made(x, 5, 1, 0, "0C");
        int into = Bytes.made(x, 5, 1, 0, "7D");
        for (int count : new int[] {LEAST, -42, -41, 41, 42, MOST}) {
            CHECK.due("count " + count, x.apply(5, a, count, into), -2);
        }
        CHECK.due("bytes after it", Bytes.of(x, into), "7D");
        String least = "0." + "0".repeat(30) + "1";
        dueApply(5, least, "40", new int[] {5, 11, 1}, 1, "10000000000C");
        dueApply(5, least, "39", new int[] {5, 11, 1}, 1, "01000000000C");
        dueApply(5, "-1" + "0".repeat(30), "-40", new int[] {5, 11, 11}, 1, "00000000010D");
        dueApply(5, "-1" + "0".repeat(30), "-39", new int[] {5, 11, 11}, 1, "00000000100D");
        dueApply(5, "-7", "0", new int[] {5, 1, 0}, 1, "7D");
    }

    /** Ops 4 and 7 on whole numbers in 16 bytes each, against Java's own / and % on their lowest 64 bits. */
    private static void dueWholeParts(BigInteger a, BigInteger b) {
        PackedDecimals x = new PackedDecimals();
        int left = Bytes.made(x, 8, 31, 0, Bytes.complement(a, 16));
        int right = Bytes.made(x, 8, 31, 0, Bytes.complement(b, 16));
        int into = x.number(8, 31, 0);
        long low = a.longValue();
        long by = b.longValue();
        CHECK.due(a + " / " + b, x.apply(4, left, right, into), 1);
        CHECK.due(a + " / " + b + ": bytes", Bytes.of(x, into), Bytes.complement(BigInteger.valueOf(low / by), 16));
        CHECK.due(a + " % " + b, x.apply(7, left, right, into), 1);
        CHECK.due(a + " % " + b + ": bytes", Bytes.of(x, into), Bytes.complement(BigInteger.valueOf(low % by), 16));
    }

    private static void lowest64Bits() {
        BigInteger two = BigInteger.TWO;
        BigInteger[] greats = {two.pow(63), two.pow(64).add(BigInteger.valueOf(5)), two.pow(63).negate(),
            two.pow(64).negate().subtract(BigInteger.valueOf(5)), two.pow(127).subtract(BigInteger.ONE),
            two.pow(63).not(), BigInteger.TEN.pow(31).subtract(BigInteger.ONE), two.pow(65).subtract(BigInteger.ONE)};
        for (BigInteger great : greats) {
            dueWholeParts(great, BigInteger.valueOf(3));
            dueWholeParts(great, BigInteger.valueOf(-7));
            dueWholeParts(BigInteger.valueOf(1000), great);
            dueWholeParts(BigInteger.valueOf(-1000), great);
            dueWholeParts(great, great);
        }
        // Their lowest 64 bits are 0 in the dividend, which is no fault.
        dueWholeParts(two.pow(64), BigInteger.valueOf(3));
        dueWholeParts(two.pow(127).negate(), BigInteger.valueOf(3));
        // Whole parts are what stands ahead of the point, whatever the sign.
        dueApply(4, "-1.9", "1.9", new int[] {5, 1, 0}, 1, "1D");
        dueApply(7, "-8.9", "-3.9", new int[] {5, 1, 0}, 1, "2D");
        dueApply(4, "0.9", "1", new int[] {5, 1, 0}, 1, "0C");
        // A double of 2 to the 80 plus 2 to the 40: 2 to the 40 is left of it.
        PackedDecimals x = new PackedDecimals();
        int into = x.number(8, 18, 0);
        int big = Bytes.made(x, 10, 1, 0, "44F0000000001000");
        CHECK.due("a double's whole part", x.apply(4, big, Bytes.decimal(x, "1"), into), 1);
        CHECK.due("its bytes", Bytes.of(x, into), "0000010000000000");
    }

    private static void javasDivision() {
        for (int a : new int[] {-7, 7, -6, 6, 0}) {
            for (int b : new int[] {-3, 3, -1, 1}) {
                dueWholeParts(BigInteger.valueOf(a), BigInteger.valueOf(b));
            }
        }
        // The least one by -1 is itself again, and leaves 0.
        BigInteger least = BigInteger.valueOf(Long.MIN_VALUE);
        dueWholeParts(least, BigInteger.ONE.negate());
        dueWholeParts(least, BigInteger.ONE);
        dueWholeParts(least, least);
        dueWholeParts(BigInteger.valueOf(Long.MAX_VALUE), least);
        dueWholeParts(BigInteger.valueOf(Long.MAX_VALUE), BigInteger.ONE.negate());
    }

    private static void applyNoSuchNumber() {
        for (int kind = -1; kind < 9; kind++) {
            int op = kind;
            dueNoSuchNumber("a of op " + op, (x, number) -> x.apply(op, number, 0, 0));
            dueNoSuchNumber("into of op " + op, (x, number) -> x.apply(op, 0, 0, number));
            if (op != 5) {
                dueNoSuchNumber("b of op " + op, (x, number) -> x.apply(op, 0, number, 0));
            }
        }
        PackedDecimals x = new PackedDecimals();
        int five = Bytes.made(x, 5, 1, 1, "5C");
        CHECK.due("op 5's count is no number", x.apply(5, five, 1, five), 0);
        CHECK.due("nor this one", x.apply(5, five, -1, five), 1);
    }

    private static void applyWholePartZero() {
        PackedDecimals x = new PackedDecimals();
        int into = Bytes.made(x, 5, 1, 0, "7D");
        int one = Bytes.decimal(x, "1");
        int[] zeros = {Bytes.decimal(x, "0"), Bytes.decimal(x, "0.9"), Bytes.decimal(x, "-0.9"),
            Bytes.made(x, 8, 31, 0, "00000000000000010000000000000000"),
            Bytes.made(x, 8, 31, 0, "80000000000000000000000000000000"),
            Bytes.made(x, 9, 1, 0, "3F7FFFFF"), Bytes.made(x, 10, 1, 0, "C630000000000000"),
            Bytes.made(x, 0, 1, 0, "D0")};
        for (int zero : zeros) {
            for (int op : new int[] {4, 7}) {
                CHECK.dueThrow("op " + op + " by number " + zero, ARITHMETIC, () -> x.apply(op, one, zero, into));
                CHECK.dueThrow("0, op " + op + " by number " + zero, ARITHMETIC,
                        () -> x.apply(op, zeros[0], zero, into));
            }
            for (int op : new int[] {0, 1, 2, 3, 6}) {
                CHECK.due("op " + op + " does not throw", x.apply(op, one, zero, x.number(10, 1, 0)) >= 0, true);
            }
        }
        CHECK.due("bytes after it", Bytes.of(x, into), "7D");
        int lowest = Bytes.made(x, 8, 31, 0, "00000000000000010000000000000001");
        CHECK.due("lowest bits that are not 0", x.apply(4, one, lowest, into), 1);
        CHECK.due("its bytes", Bytes.of(x, into), "1C");
    }

    private static void wholePartZeroWhenBothAreValid() {
        PackedDecimals x = new PackedDecimals();
        int bad = Bytes.made(x, 5, 1, 0, "00");
        int zero = Bytes.made(x, 5, 1, 0, "0C");
        int into = Bytes.made(x, 5, 1, 0, "7D");
        for (int op : new int[] {4, 7}) {
            CHECK.due("a is not valid, op " + op, x.apply(op, bad, zero, into), NONE);
            // The halves of b ahead of the wrong one are a zero.
            CHECK.due("b is not valid, op " + op, x.apply(op, zero, bad, into), NONE);
        }
        CHECK.due("bytes after it", Bytes.of(x, into), "7D");
    }

    private static void whatGoesAhead() {
        PackedDecimals x = new PackedDecimals();
        int bad = Bytes.made(x, 5, 1, 0, "00");
        int into = Bytes.made(x, 5, 1, 0, "7D");
        CHECK.dueThrow("no a ahead of a wrong op", BOUNDS, () -> x.apply(8, 2, bad, into));
        CHECK.dueThrow("no b ahead of a wrong op", BOUNDS, () -> x.apply(8, bad, 2, into));
        CHECK.dueThrow("no into ahead of a wrong op", BOUNDS, () -> x.apply(-1, bad, bad, 2));
        CHECK.dueThrow("no a ahead of a wrong count", BOUNDS, () -> x.apply(5, 2, 41, into));
        CHECK.dueThrow("no into ahead of a wrong count", BOUNDS, () -> x.apply(5, bad, -41, 2));
        CHECK.dueThrow("no b ahead of one not valid", BOUNDS, () -> x.apply(0, bad, 2, into));
        CHECK.dueThrow("no into ahead of one not valid", BOUNDS, () -> x.apply(5, bad, 0, 2));
        CHECK.due("a wrong op ahead of one not valid", x.apply(8, bad, bad, into), -2);
        CHECK.due("a wrong op ahead of one not valid", x.apply(-1, bad, bad, into), -2);
        CHECK.due("a wrong count ahead of one not valid", x.apply(5, bad, 41, into), -2);
        CHECK.due("a wrong count ahead of one not valid", x.apply(5, bad, -41, into), -2);
        CHECK.due("bytes after it", Bytes.of(x, into), "7D");
    }

    private static void dueOrder(String a, String b, int want) {
        PackedDecimals x = new PackedDecimals();
        int left = Bytes.decimal(x, a);
        int right = Bytes.decimal(x, b);
        CHECK.due("compare " + a + ", " + b, x.compare(left, right), want);
        CHECK.due("compare " + b + ", " + a, x.compare(right, left), -want);
        CHECK.due("compare " + a + " with itself", x.compare(left, left), 0);
    }

    private static void orders() {
        String least = "0." + "0".repeat(30) + "1";
        dueOrder("-1", "1", -1);
        dueOrder("-2", "-1", -1);
        dueOrder("1", "2", -1);
        dueOrder("1.50", "1.5", 0);
        dueOrder("-1.50", "-1.5", 0);
        dueOrder("0", least, -1);
        dueOrder("-" + least, "0", -1);
        dueOrder("9".repeat(31), "9".repeat(30) + "8", 1);
        dueOrder("-" + "9".repeat(31), "-" + "9".repeat(30) + "8", -1);
        dueOrder("9".repeat(31), least, 1);
        dueOrder("0." + "9".repeat(31), "1", -1);
        PackedDecimals x = new PackedDecimals();
        int tenth = Bytes.made(x, 9, 1, 0, "3DCCCCCD");
        CHECK.due("a float that is more than 0.1", x.compare(tenth, Bytes.decimal(x, "0.1")), 1);
        CHECK.due("0.1 and it", x.compare(Bytes.decimal(x, "0.1"), tenth), -1);
        int great = Bytes.made(x, 8, 31, 0, "80000000000000000000000000000000");
        int double127 = Bytes.made(x, 10, 1, 0, "C65F8DEF8808B024");
        CHECK.due("-2 to the 127 and the least double", x.compare(great, double127), -1);
    }

    private static void compareNotValid() {
        for (int usage = 0; usage < 12; usage++) {
            if (usage == 8) {
                continue;
            }
            PackedDecimals x = new PackedDecimals();
            int good = Bytes.made(x, usage, 2, 0, TWELVE[usage]);
            int bad = Bytes.made(x, usage, 2, 0, NOT_VALID[usage]);
            CHECK.due("a is not valid, usage " + usage, x.compare(bad, good), -2);
            CHECK.due("b is not valid, usage " + usage, x.compare(good, bad), -2);
            CHECK.due("the same one, not valid, usage " + usage, x.compare(bad, bad), -2);
            CHECK.due("valid ones, usage " + usage, x.compare(good, good), 0);
        }
    }

    private static void compareNoSuchNumber() {
        dueNoSuchNumber("compare, a", (x, number) -> x.compare(number, 0));
        dueNoSuchNumber("compare, b", (x, number) -> x.compare(0, number));
        PackedDecimals x = new PackedDecimals();
        int bad = x.number(5, 1, 0);
        CHECK.dueThrow("ahead of -2", BOUNDS, () -> x.compare(bad, 1));
    }

    private static void validOrNot() {
        for (int usage = 0; usage < 12; usage++) {
            PackedDecimals x = new PackedDecimals();
            int number = Bytes.made(x, usage, 2, 0, TWELVE[usage]);
            CHECK.due(TWELVE[usage] + " of usage " + usage, x.valid(number), true);
            Bytes.load(x, number, NOT_VALID[usage]);
            CHECK.due(NOT_VALID[usage] + " of usage " + usage, x.valid(number), usage == 8);
            int fresh = x.number(usage, 2, 0);
            boolean zeroIsValid = usage >= 7 && usage <= 10;
            CHECK.due("a new one of usage " + usage, x.valid(fresh), zeroIsValid);
        }
    }

    private static void dueConvert(int[] from, String hex, int[] to, int answer, String want) {
        PackedDecimals x = new PackedDecimals();
        int source = Bytes.made(x, from[0], from[1], from[2], hex);
        int target = x.number(to[0], to[1], to[2]);
        Bytes.load(x, target, "5A".repeat(x.size(target)));
        // A move does not round, whatever the rounding.
        x.round(target, 4);
        String call = "convert " + hex + " of usage " + from[0] + " into usage " + to[0] + ", " + to[1] + ", " + to[2];
        CHECK.due(call, x.convert(source, target), answer);
        CHECK.due(call + ": bytes", Bytes.of(x, target), want);
        CHECK.due(call + ": the source", Bytes.of(x, source), hex);
        CHECK.due(call + ": its rounding", x.round(target, 0), 4);
    }

    private static int[] form(int usage, int digits, int scale) {
        return new int[] {usage, digits, scale};
    }

    private static void digitsBehindGo() {
        int[] from = form(5, 5, 3);
        dueConvert(from, "12999C", form(0, 4, 2), 0, "F1F2F9C9");
        dueConvert(from, "12999D", form(1, 3, 1), 0, "D1F2F9");
        dueConvert(from, "12999D", form(2, 2, 0), 0, "F1F260");
        dueConvert(from, "12999C", form(3, 2, 0), 0, "4EF1F2");
        dueConvert(from, "12999C", form(4, 2, 0), 0, "F1F2");
        dueConvert(from, "12999D", form(5, 2, 0), 0, "012D");
        dueConvert(from, "12999C", form(6, 2, 0), 0, "012F");
        dueConvert(from, "12999D", form(7, 2, 0), 0, "FFF4");
        dueConvert(from, "12999D", form(8, 2, 0), 0, "FFF4");
        dueConvert(from, "12999D", form(11, 2, 0), 0, "00310032002D");
        dueConvert(from, "12900C", form(5, 3, 1), 1, "129C");
        dueConvert(from, "00999D", form(5, 1, 0), 0, "0C");
        dueConvert(form(10, 1, 0), "C02FFFFFFFFFFFFF", form(5, 3, 1), 0, "159D");
    }

    private static void digitsAboveGo() {
        int[] from = form(5, 5, 1);
        dueConvert(from, "98765C", form(0, 4, 1), 0, "F8F7F6C5");
        dueConvert(from, "98765D", form(1, 3, 1), 0, "D7F6F5");
        dueConvert(from, "98765D", form(2, 2, 1), 0, "F6F560");
        dueConvert(from, "98765C", form(3, 1, 1), 0, "4EF5");
        dueConvert(from, "98765C", form(4, 3, 0), 0, "F8F7F6");
        dueConvert(from, "98765D", form(5, 4, 1), 0, "08765D");
        dueConvert(from, "98765C", form(6, 3, 1), 0, "765F");
        // Digits of BINARY go as well, not bits: -9876 has digits that 2 bytes would hold.
        dueConvert(from, "98760D", form(7, 3, 0), 0, Bytes.complement(BigInteger.valueOf(-876), 2));
        dueConvert(from, "98760D", form(7, 4, 0), 1, Bytes.complement(BigInteger.valueOf(-9876), 2));
        dueConvert(from, "98765D", form(11, 2, 1), 0, "00360035002D");
        dueConvert(from, "10000D", form(5, 3, 1), 0, "000C");
        dueConvert(from, "09999D", form(5, 4, 1), 1, "09999D");
        dueConvert(form(8, 31, 0), "7F" + "FF".repeat(15), form(5, 31, 0), 0,
                "3460469231731687303715884105727C");
    }

    private static void bitsAboveGo() {
        int[] from = form(8, 9, 0);
        dueConvert(from, "12345678", form(8, 4, 0), 0, "5678");
        dueConvert(from, "0000FFFF", form(8, 4, 0), 0, "FFFF");
        dueConvert(from, "FFFF7FFF", form(8, 1, 0), 0, "7FFF");
        dueConvert(from, "00008000", form(8, 4, 0), 0, "8000");
        dueConvert(from, "00007FFF", form(8, 4, 0), 1, "7FFF");
        dueConvert(from, "FFFF8000", form(8, 4, 0), 1, "8000");
        dueConvert(from, "00010000", form(8, 4, 0), 0, "0000");
        dueConvert(from, "80000000", form(8, 18, 0), 1, "FFFFFFFF80000000");
        // Digits above n do not go where bits do.
        dueConvert(from, "00007FFF", form(8, 1, 0), 1, "7FFF");
        dueConvert(form(8, 31, 0), "0123456789ABCDEF0123456789ABCDEF", form(8, 18, 0), 0, "0123456789ABCDEF");
        dueConvert(form(8, 31, 0), "0123456789ABCDEF8123456789ABCDEF", form(8, 9, 0), 0, "89ABCDEF");
        dueConvert(form(8, 31, 0), "80" + "00".repeat(15), form(8, 31, 0), 1, "80" + "00".repeat(15));
        // 10 to the 31 less 1 with one more digit behind the point: 10 to the 32 less 10.
        BigInteger shifted = BigInteger.TEN.pow(32).subtract(BigInteger.TEN);
        dueConvert(form(5, 31, 0), "9".repeat(31) + "C", form(8, 31, 1), 1, Bytes.complement(shifted, 16));
        dueConvert(form(5, 31, 0), "9".repeat(31) + "D", form(8, 4, 1), 0, Bytes.complement(shifted.negate(), 2));
    }

    private static void signGoes() {
        int[] from = form(5, 3, 0);
        dueConvert(from, "123D", form(4, 3, 0), 0, "F1F2F3");
        dueConvert(from, "123D", form(6, 3, 0), 0, "123F");
        dueConvert(from, "123C", form(4, 3, 0), 1, "F1F2F3");
        dueConvert(from, "123C", form(6, 3, 0), 1, "123F");
        dueConvert(from, "000D", form(4, 3, 0), 1, "F0F0F0");
        dueConvert(form(7, 3, 0), "FC19", form(6, 2, 0), 0, "099F");
        dueConvert(form(9, 1, 0), "C0200000", form(4, 1, 0), 0, "F2");
    }

    private static void nearestGoes() {
        int[] from = form(5, 9, 1);
        dueConvert(from, "000000001D", form(9, 1, 0), 0, "BDCCCCCD");
        dueConvert(from, "000000005D", form(9, 1, 0), 1, "BF000000");
        dueConvert(from, "000000003C", form(10, 1, 0), 0, "3FD3333333333333");
        dueConvert(form(5, 9, 0), "016777217C", form(9, 1, 0), 0, "4B800000");
        dueConvert(form(5, 9, 0), "016777219C", form(9, 1, 0), 0, "4B800002");
        dueConvert(form(5, 9, 0), "016777218C", form(9, 1, 0), 1, "4B800001");
        dueConvert(form(10, 1, 0), "3FB999999999999A", form(9, 1, 0), 0, "3DCCCCCD");
        dueConvert(form(9, 1, 0), "3DCCCCCD", form(10, 1, 0), 1, "3FB99999A0000000");
        dueConvert(form(9, 1, 0), "BDCCCCCD", form(9, 1, 0), 1, "BDCCCCCD");
        // The double next to 10 to the -31 is one of the document's, and so is stored; the float is not.
        dueConvert(form(5, 31, 31), "0".repeat(30) + "1C", form(10, 1, 0), 0, "398039D665896880");
        dueConvert(form(5, 31, 31), "0".repeat(30) + "1C", form(9, 1, 0), 0, "00000000");
    }

    private static void nothingGoes() {
        int[] whole = form(8, 31, 0);
        String end = "10000000000000000198846248386560";
        String floatEnd = "10000000150474662198766888550400";
        String still = "5A".repeat(8);
        dueConvert(whole, Bytes.complement(BigInteger.TEN.pow(31), 16), form(10, 1, 0), 0, "465F8DEF8808B024");
        dueConvert(whole, Bytes.complement(new BigInteger(end), 16), form(10, 1, 0), 0, "465F8DEF8808B024");
        dueConvert(whole, Bytes.complement(new BigInteger(end).add(BigInteger.ONE), 16), form(10, 1, 0), 0, still);
        dueConvert(whole, Bytes.complement(new BigInteger(end).not(), 16), form(10, 1, 0), 0, still);
        dueConvert(whole, Bytes.complement(BigInteger.TEN.pow(31), 16), form(9, 1, 0), 0, "72FC6F7C");
        dueConvert(whole, Bytes.complement(new BigInteger(floatEnd), 16), form(9, 1, 0), 0, "72FC6F7C");
        dueConvert(whole, Bytes.complement(new BigInteger(floatEnd).not(), 16), form(9, 1, 0), 0, "5A5A5A5A");
        dueConvert(whole, "7F" + "FF".repeat(15), form(9, 1, 0), 0, "5A5A5A5A");
        // 2 to the 126 is a double's value, but too great.
        dueConvert(whole, "40" + "00".repeat(15), form(10, 1, 0), 0, still);
        dueConvert(form(5, 31, 0), "9".repeat(31) + "D", form(10, 1, 0), 0, "C65F8DEF8808B024");
    }

    private static void sameOrNot() {
        for (int from = 0; from < 12; from++) {
            for (int to = 0; to < 12; to++) {
                boolean loses = from != 4 && from != 6 && (to == 4 || to == 6);
                String minus = from == 4 || from == 6 ? withPlus(to) : TWELVE[to];
                dueConvert(form(from, 2, 0), TWELVE[from], form(to, 2, 0), loses ? 0 : 1, minus);
            }
        }
        PackedDecimals x = new PackedDecimals();
        int a = Bytes.made(x, 5, 3, 1, "123B");
        CHECK.due("into itself", x.convert(a, a), 1);
        CHECK.due("its bytes", Bytes.of(x, a), "123D");
    }

    /** 12 instead of -12. */
    private static String withPlus(int usage) {
        String[] plus = {"F1C2", "C1F2", "F1F24E", "4EF1F2", "F1F2", "012C", "012F", "000C", "000C", "41400000",
            "4028000000000000", "00310032002B"};
        return plus[usage];
    }

    private static void convertNotValid() {
        for (int usage = 0; usage < 12; usage++) {
            for (int to = 0; usage != 8 && to < 12; to++) {
                PackedDecimals x = new PackedDecimals();
                int bad = Bytes.made(x, usage, 2, 0, NOT_VALID[usage]);
                int target = Bytes.made(x, to, 2, 0, TWELVE[to]);
                CHECK.due("usage " + usage + ", not valid, into usage " + to, x.convert(bad, target), NONE);
                CHECK.due("bytes after it", Bytes.of(x, target), TWELVE[to]);
                CHECK.due("the source's bytes after it", Bytes.of(x, bad), NOT_VALID[usage]);
            }
        }
    }

    private static void convertNoSuchNumber() {
        dueNoSuchNumber("convert, from", (x, number) -> x.convert(number, 0));
        dueNoSuchNumber("convert, to", (x, number) -> x.convert(0, number));
        PackedDecimals x = new PackedDecimals();
        int bad = x.number(5, 1, 0);
        CHECK.dueThrow("ahead of NONE", BOUNDS, () -> x.convert(bad, 1));
    }

    private static void digits() {
        PackedDecimals x = new PackedDecimals();
        int a = Bytes.made(x, 1, 5, 3, "D1F2F3F4F5");
        int least = Bytes.made(x, 8, 31, 31, "80000000000000000000000000000000");
        int nines = Bytes.made(x, 5, 31, 0, "9".repeat(31) + "D");
        String digits = "170141183460469231731687303715884105728";
        for (int i = 0; i < 39; i++) {
            CHECK.due("digit " + i + " of five", x.digit(a, i), i < 5 ? 5 - i : 0);
            CHECK.due("digit " + i + " of the least", x.digit(least, i), digits.charAt(38 - i) - '0');
            CHECK.due("digit " + i + " of nines", x.digit(nines, i), i < 31 ? 9 : 0);
        }
    }

    private static void wrongDigit() {
        for (int usage = 0; usage < 12; usage++) {
            PackedDecimals x = new PackedDecimals();
            int number = Bytes.made(x, usage, 2, 0, TWELVE[usage]);
            for (int i : new int[] {LEAST, -1, 39, 40, MOST}) {
                CHECK.due("digit " + i + " of usage " + usage, x.digit(number, i), NONE);
            }
            boolean floating = usage == 9 || usage == 10;
            CHECK.due("digit 0 of usage " + usage, x.digit(number, 0), floating ? NONE : 2);
            CHECK.due("digit 1 of usage " + usage, x.digit(number, 1), floating ? NONE : 1);
            CHECK.due("digit 2 of usage " + usage, x.digit(number, 2), floating ? NONE : 0);
            CHECK.due("digit 38 of usage " + usage, x.digit(number, 38), floating ? NONE : 0);
        }
    }

    private static void digitsOfFloating() {
        PackedDecimals x = new PackedDecimals();
        int[] floating = {x.number(9, 1, 0), x.number(10, 1, 0), Bytes.made(x, 9, 31, 0, "3F800000"),
            Bytes.made(x, 10, 31, 0, "C014000000000000")};
        for (int number : floating) {
            for (int i = 0; i < 39; i++) {
                CHECK.due("digit " + i + " of number " + number, x.digit(number, i), NONE);
            }
        }
    }

    private static void digitsNotValid() {
        for (int usage = 0; usage < 12; usage++) {
            PackedDecimals x = new PackedDecimals();
            int bad = Bytes.made(x, usage, 2, 0, NOT_VALID[usage]);
            CHECK.due("digit 0 of usage " + usage + ", not valid", x.digit(bad, 0), usage == 8 ? 0 : NONE);
            CHECK.due("digit 38 of usage " + usage + ", not valid", x.digit(bad, 38), usage == 8 ? 0 : NONE);
        }
    }

    private static void digitNoSuchNumber() {
        dueNoSuchNumber("digit 0", (x, number) -> x.digit(number, 0));
        dueNoSuchNumber("digit 39", (x, number) -> x.digit(number, 39));
        dueNoSuchNumber("digit -1", (x, number) -> x.digit(number, -1));
    }

    private static void roundings() {
        for (int usage = 0; usage < 12; usage++) {
            PackedDecimals x = new PackedDecimals();
            int a = x.number(usage, 2, 0);
            int b = x.number(usage, 2, 0);
            for (int kind = 0; kind < 8; kind++) {
                CHECK.due("round(a, " + kind + ")", x.round(a, kind), Math.max(0, kind - 1));
            }
            CHECK.due("the other's", x.round(b, 0), 0);
            CHECK.due("back to 0", x.round(a, 0), 7);
            CHECK.due("what it was", x.round(a, 0), 0);
        }
    }

    private static void wrongRounding() {
        PackedDecimals x = new PackedDecimals();
        int a = x.number(5, 1, 0);
        x.round(a, 6);
        for (int kind : new int[] {LEAST, -1, 8, 9, MOST}) {
            CHECK.due("round(a, " + kind + ")", x.round(a, kind), NONE);
        }
        int value = Bytes.decimal(x, "-1.5");
        CHECK.due("it rounds as before", x.apply(5, value, 0, a), 1);
        CHECK.due("its bytes", Bytes.of(x, a), "2D");
        CHECK.due("what it was", x.round(a, 0), 6);
    }

    private static void roundNoSuchNumber() {
        dueNoSuchNumber("round by 3", (x, number) -> x.round(number, 3));
        dueNoSuchNumber("round by 8", (x, number) -> x.round(number, 8));
    }

    private static void dueHalf(String value, int want) {
        PackedDecimals x = new PackedDecimals();
        CHECK.due("half of " + value, x.half(Bytes.decimal(x, value)), want);
    }

    private static void halves() {
        dueHalf("32767", 32767);
        dueHalf("32768", -32768);
        dueHalf("65535", -1);
        dueHalf("65536", 0);
        dueHalf("65537.9", 1);
        dueHalf("-32768", -32768);
        dueHalf("-32769", 32767);
        dueHalf("-65535", 1);
        dueHalf("-65536", 0);
        dueHalf("-65537.9", -1);
        dueHalf("-0.9", 0);
        dueHalf("0.9", 0);
        dueHalf("-1.9", -1);
        dueHalf("0." + "9".repeat(31), 0);
        dueHalf("9".repeat(31), -1);
        dueHalf("-" + "9".repeat(31), 1);
        PackedDecimals x = new PackedDecimals();
        CHECK.due("of 16 bytes", x.half(Bytes.made(x, 8, 31, 0, "0123456789ABCDEF0123456789ABC0DE")), (short) 0xc0de);
        CHECK.due("of a float", x.half(Bytes.made(x, 9, 1, 0, "C77FFF80")), 1);
        CHECK.due("of a double", x.half(Bytes.made(x, 10, 1, 0, "40EFFFFFFFFFFFFF")), -1);
        CHECK.due("of a great float", x.half(Bytes.made(x, 9, 1, 0, "72FC6F7C")), 0);
        CHECK.due("of a small double", x.half(Bytes.made(x, 10, 1, 0, "B98039D665896880")), 0);
    }

    private static void halfNotValid() {
        for (int usage = 0; usage < 12; usage++) {
            PackedDecimals x = new PackedDecimals();
            int number = Bytes.made(x, usage, 2, 0, NOT_VALID[usage]);
            CHECK.due("half of usage " + usage + ", not valid", x.half(number), 0);
            Bytes.load(x, number, TWELVE[usage]);
            CHECK.due("half of usage " + usage, x.half(number), usage == 4 || usage == 6 ? 12 : -12);
        }
        // Bytes that would have a value, and a negative one, if they were valid.
        PackedDecimals x = new PackedDecimals();
        CHECK.due("half of -100 in two digits", x.half(Bytes.made(x, 7, 2, 0, "FF9C")), 0);
        CHECK.due("half of minus 1 and a letter", x.half(Bytes.made(x, 1, 2, 0, "D1FA")), 0);
        CHECK.due("half of a float of -10 to the 32", x.half(Bytes.made(x, 9, 1, 0, "F49DC5AE")), 0);
    }

    private static void promises1To5() {
        CHECK.sentence("Promise 1: \"No numbers.\"", BoundariesTest::noNumbers);
        CHECK.sentence("Promise 2: \"which one (from 0 on)\"", BoundariesTest::whichNumber);
        CHECK.sentence("Promise 2: \"NONE when usage is not so\"", BoundariesTest::wrongUsage);
        CHECK.sentence("Promise 2: \"NONE when digits is not so\"", BoundariesTest::wrongDigits);
        CHECK.sentence("Promise 2: \"NONE when scale is not so\"", BoundariesTest::wrongScale);
        CHECK.sentence("Promise 2: \"or there are 64\"", BoundariesTest::sixtyFour);
        CHECK.sentence("Promise 2: \"NegativeArraySizeException when digits is below 0\"",
                BoundariesTest::digitsBelowZero);
        CHECK.sentence("Promise 3: \"when there is no such number\"",
                () -> dueNoSuchNumber("octet", (x, number) -> octet(x, number, 0, 1)));
        CHECK.sentence("Promise 3: \"when there is no such byte\"", () -> dueNoSuchByte("octet", true));
        CHECK.sentence("Promise 4: \"Throws as octet\", no such number",
                () -> dueNoSuchNumber("at", (x, number) -> x.at(number, 0)));
        CHECK.sentence("Promise 4: \"Throws as octet\", no such byte", () -> dueNoSuchByte("at", false));
        CHECK.sentence("Promise 5: \"How many bytes a number has\"", BoundariesTest::sizes);
        CHECK.sentence("Promise 5: \"when there is no such number\"",
                () -> dueNoSuchNumber("size", (x, number) -> x.size(number)));
    }

    private static void promise6() {
        CHECK.sentence("Promise 6: \"A value from those of a and b is stored\"", BoundariesTest::operations);
        CHECK.sentence("Promise 6: \"0 for a size error\"", BoundariesTest::applySizeErrors);
        CHECK.sentence("Promise 6: \"(3 and 6: also by zero)\"", BoundariesTest::applyByZero);
        CHECK.sentence("Promise 6: \"NONE when a or b is not valid\"", BoundariesTest::applyNotValid);
        CHECK.sentence("Promise 6: \"-2 when op is not so\"", BoundariesTest::applyWrongOp);
        CHECK.sentence("Promise 6: \"-2 when the count is not so\", \"a count here, -40 .. 40\"",
                BoundariesTest::applyWrongCount);
        CHECK.sentence("Promise 6: \"In 4 and 7 whole parts are their lowest 64 bits\"", BoundariesTest::lowest64Bits);
        CHECK.sentence("Promise 6: \"as Java's / and % have it\"", BoundariesTest::javasDivision);
        CHECK.sentence("Promise 6: \"ArrayIndexOutOfBoundsException when there is no such number\"",
                BoundariesTest::applyNoSuchNumber);
        CHECK.sentence("Promise 6: \"ArithmeticException when op is 4 or 7 and b's whole part is 0\"",
                BoundariesTest::applyWholePartZero);
        CHECK.sentence("Promise 6: \"both are valid\"", BoundariesTest::wholePartZeroWhenBothAreValid);
        CHECK.sentence("Promise 6: \"No such number goes ahead of -2, that of NONE.\"", BoundariesTest::whatGoesAhead);
    }

    private static void promises7To9() {
        CHECK.sentence("Promise 7: \"less than, as great as, greater than\"", BoundariesTest::orders);
        CHECK.sentence("Promise 7: \"-2 when one is not valid\"", BoundariesTest::compareNotValid);
        CHECK.sentence("Promise 7: \"Throws as size\"", BoundariesTest::compareNoSuchNumber);
        CHECK.sentence("Promise 8: \"valid\"", BoundariesTest::validOrNot);
        CHECK.sentence("Promise 8: \"Throws as size\"",
                () -> dueNoSuchNumber("valid", (x, number) -> x.valid(number) ? 1 : 0));
        CHECK.sentence("Promise 9: \"digits behind its scale go\"", BoundariesTest::digitsBehindGo);
        CHECK.sentence("Promise 9: \"digits above its n go\"", BoundariesTest::digitsAboveGo);
        CHECK.sentence("Promise 9: \"(of 8: bits above its bytes)\"", BoundariesTest::bitsAboveGo);
        CHECK.sentence("Promise 9: \"the sign too, if it has none\"", BoundariesTest::signGoes);
        CHECK.sentence("Promise 9: \"into 9 and 10 the nearest one\"", BoundariesTest::nearestGoes);
        CHECK.sentence("Promise 9: \"nothing if that is 10 to the 31 or more\"", BoundariesTest::nothingGoes);
        CHECK.sentence("Promise 9: \"1 when the value is the same there; 0 when it isn't\"", BoundariesTest::sameOrNot);
        CHECK.sentence("Promise 9: \"NONE, moving nothing, when it is not valid\"", BoundariesTest::convertNotValid);
        CHECK.sentence("Promise 9: \"Throws as size\"", BoundariesTest::convertNoSuchNumber);
    }

    private static void promises10To12() {
        CHECK.sentence("Promise 10: \"Digit i (0 the lowest)\"", BoundariesTest::digits);
        CHECK.sentence("Promise 10: \"NONE when i is not 0 .. 38\"", BoundariesTest::wrongDigit);
        CHECK.sentence("Promise 10: \"NONE of 9 and 10\"", BoundariesTest::digitsOfFloating);
        CHECK.sentence("Promise 10: \"NONE when it is not valid\"", BoundariesTest::digitsNotValid);
        CHECK.sentence("Promise 10: \"Throws as size\"", BoundariesTest::digitNoSuchNumber);
        CHECK.sentence("Promise 11: \"A number's rounding becomes kind: what it was\"", BoundariesTest::roundings);
        CHECK.sentence("Promise 11: \"NONE when kind is not so\"", BoundariesTest::wrongRounding);
        CHECK.sentence("Promise 11: \"Throws as size\"", BoundariesTest::roundNoSuchNumber);
        CHECK.sentence("Promise 12: \"The lowest 16 bits of a value's whole part\"", BoundariesTest::halves);
        CHECK.sentence("Promise 12: \"0 when it is not valid\"", BoundariesTest::halfNotValid);
        CHECK.sentence("Promise 12: \"Throws as size\"", () -> dueNoSuchNumber("half", (x, number) -> x.half(number)));
    }

    public static void main(String[] args) {
        promises1To5();
        promise6();
        promises7To9();
        promises10To12();
        CHECK.end("BoundariesTest");
    }
}
