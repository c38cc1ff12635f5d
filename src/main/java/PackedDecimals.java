/**
 * Numbers as they lie in a mainframe's bytes, and exact arithmetic on them.
 *
 * A value is read from its bytes as a fraction of two natural numbers; the arithmetic makes another
 * fraction of such ones, and only the last step, the storing, rounds it. All workplaces are made
 * with the object and used again by each call.
 */
public final class PackedDecimals {
    public static final int NONE = -1;

    private static final int NOT_SO = -2;
    private static final int MOST_NUMBERS = 64;
    private static final int MOST_DIGITS = 31;
    private static final int MOST_WHOLE_DIGITS = 39;
    private static final int MOST_COUNT = 40;

    private static final int ZONED_BEHIND = 0;
    private static final int ZONED_AHEAD = 1;
    private static final int ZONED_APART_BEHIND = 2;
    private static final int ZONED_APART_AHEAD = 3;
    private static final int ZONED_SIGNLESS = 4;
    private static final int PACKED = 5;
    private static final int PACKED_SIGNLESS = 6;
    private static final int BINARY = 7;
    private static final int WHOLE = 8;
    private static final int FLOAT = 9;
    private static final int DOUBLE = 10;
    private static final int NATIONAL = 11;

    private static final int ADD = 0;
    private static final int SUBTRACT = 1;
    private static final int MULTIPLY = 2;
    private static final int DIVIDE = 3;
    private static final int DIVIDE_WHOLE = 4;
    private static final int TIMES_TEN_TO = 5;
    private static final int REMAINDER = 6;
    private static final int REMAINDER_WHOLE = 7;

    private static final int TO_ZERO = 0;
    private static final int HALVES_AWAY = 1;
    private static final int HALVES_EVEN = 2;
    private static final int HALVES_TO_ZERO = 3;
    private static final int AWAY = 4;
    private static final int UP = 5;
    private static final int DOWN = 6;
    private static final int NOT_AT_ALL = 7;

    private final Numeral[] numerals = new Numeral[MOST_NUMBERS];
    private int count;
    private final Reader reader = new Reader();
    private final Arithmetic arithmetic = new Arithmetic();
    private final Storage storage = new Storage();
    private final Fraction first = new Fraction();
    private final Fraction second = new Fraction();
    private final Fraction outcome = new Fraction();

    public PackedDecimals() {
    }

    public int number(int usage, int digits, int scale) throws NegativeArraySizeException {
        if (digits < 0) {
            throw new NegativeArraySizeException("digits below 0");
        }
        if (usage < ZONED_BEHIND || usage > NATIONAL || digits < 1 || digits > MOST_DIGITS) {
            return NONE;
        }
        if (scale < 0 || scale > digits || count >= MOST_NUMBERS) {
            return NONE;
        }
        numerals[count] = new Numeral(usage, digits, scale);
        count++;
        return count - 1;
    }

    public void octet(int number, int i, byte b) throws ArrayIndexOutOfBoundsException {
        findWithByte(number, i).put(i, b);
    }

    public byte at(int number, int i) throws ArrayIndexOutOfBoundsException {
        return (byte) findWithByte(number, i).get(i);
    }

    public int size(int number) throws ArrayIndexOutOfBoundsException {
        return find(number).bytes.length;
    }

    public int apply(int op, int a, int b, int into) throws ArrayIndexOutOfBoundsException, ArithmeticException {
        Numeral left = find(a);
        // The count of op 5 is no number, so nothing is looked up for it.
        Numeral right = op == TIMES_TEN_TO ? left : find(b);
        Numeral target = find(into);
        if (op < ADD || op > REMAINDER_WHOLE || op == TIMES_TEN_TO && (b < -MOST_COUNT || b > MOST_COUNT)) {
            return NOT_SO;
        }
        if (!reader.read(left, first) || !reader.read(right, second)) {
            return NONE;
        }
        if ((op == DIVIDE_WHOLE || op == REMAINDER_WHOLE) && arithmetic.wholeBits(second) == 0) {
            throw new ArithmeticException("the divisor's whole part is 0");
        }
        return calculate(op, b) && storage.store(target, outcome) ? 1 : 0;
    }

    public int compare(int a, int b) throws ArrayIndexOutOfBoundsException {
        Numeral left = find(a);
        Numeral right = find(b);
        if (!reader.read(left, first) || !reader.read(right, second)) {
            return NOT_SO;
        }
        return arithmetic.order(first, second);
    }

    public boolean valid(int number) throws ArrayIndexOutOfBoundsException {
        return reader.read(find(number), first);
    }

    public int convert(int from, int to) throws ArrayIndexOutOfBoundsException {
        Numeral source = find(from);
        Numeral target = find(to);
        if (!reader.read(source, first)) {
            return NONE;
        }
        return storage.move(target, first) ? 1 : 0;
    }

    public int digit(int number, int i) throws ArrayIndexOutOfBoundsException {
        Numeral numeral = find(number);
        if (i < 0 || i >= MOST_WHOLE_DIGITS || numeral.floating() || !reader.read(numeral, first)) {
            return NONE;
        }
        for (int below = 0; below < i; below++) {
            first.over.takeDigit();
        }
        return first.over.takeDigit();
    }

    public int round(int number, int kind) throws ArrayIndexOutOfBoundsException {
        Numeral numeral = find(number);
        if (kind < TO_ZERO || kind > NOT_AT_ALL) {
            return NONE;
        }
        int before = numeral.rounding;
        numeral.rounding = kind;
        return before;
    }

    public short half(int number) throws ArrayIndexOutOfBoundsException {
        if (!reader.read(find(number), first)) {
            return 0;
        }
        return (short) arithmetic.wholeBits(first);
    }

    private Numeral find(int number) {
        if (number < 0 || number >= count || number >= numerals.length) {
            throw new ArrayIndexOutOfBoundsException("no such number");
        }
        return numerals[number];
    }

    private Numeral findWithByte(int number, int i) {
        Numeral numeral = find(number);
        if (i < 0 || i >= numeral.bytes.length) {
            throw new ArrayIndexOutOfBoundsException("no such byte");
        }
        return numeral;
    }

    /** Makes the outcome of the first and the second value; false where dividing by zero is a size error. */
    private boolean calculate(int op, int power) {
        switch (op) {
            case ADD:
                arithmetic.add(first, second, second.negative, outcome);
                return true;
            case SUBTRACT:
                arithmetic.add(first, second, !second.negative, outcome);
                return true;
            case MULTIPLY:
                arithmetic.multiply(first, second, outcome);
                return true;
            case DIVIDE:
                return arithmetic.divide(first, second, outcome);
            case DIVIDE_WHOLE:
                return arithmetic.divideWhole(first, second, outcome);
            case TIMES_TEN_TO:
                arithmetic.shift(first, power, outcome);
                return true;
            case REMAINDER:
                return arithmetic.remainder(first, second, outcome);
            default:
                return arithmetic.remainderWhole(first, second, outcome);
        }
    }

    /** A number of the document: how it is written, its bytes and its rounding. */
    private static final class Numeral {
        final int usage;
        final int digits;
        final int scale;
        final byte[] bytes;
        int rounding;

        Numeral(int usage, int digits, int scale) {
            this.usage = usage;
            this.digits = digits;
            this.scale = scale;
            this.bytes = new byte[Math.max(0, byteCount(usage, digits))];
        }

        static int byteCount(int usage, int digits) {
            switch (usage) {
                case ZONED_APART_BEHIND:
                case ZONED_APART_AHEAD:
                    return digits + 1;
                case PACKED:
                case PACKED_SIGNLESS:
                    return digits / 2 + 1;
                case BINARY:
                case WHOLE:
                    return digits <= 4 ? 2 : digits <= 9 ? 4 : digits <= 18 ? 8 : 16;
                case FLOAT:
                    return 4;
                case DOUBLE:
                    return 8;
                case NATIONAL:
                    return 2 * digits + 2;
                default:
                    return digits;
            }
        }

        boolean floating() {
            return usage == FLOAT || usage == DOUBLE;
        }

        boolean signless() {
            return usage == ZONED_SIGNLESS || usage == PACKED_SIGNLESS;
        }

        /** Which digit's byte bears the sign as well; NONE if none does. */
        int signedDigit() {
            return usage == ZONED_BEHIND ? digits - 1 : usage == ZONED_AHEAD ? 0 : NONE;
        }

        /** Which byte is a zoned number's sign alone; NONE if none is. */
        int signByte() {
            return usage == ZONED_APART_BEHIND ? digits : usage == ZONED_APART_AHEAD ? 0 : NONE;
        }

        int firstZonedByte() {
            return usage == ZONED_APART_AHEAD ? 1 : 0;
        }

        /** How many halves of bytes stand ahead of a packed number's digits. */
        int packedLead() {
            return digits % 2 == 0 ? 1 : 0;
        }

        int get(int i) {
            return i >= 0 && i < bytes.length ? bytes[i] & 255 : 0;
        }

        void put(int i, int b) {
            if (i >= 0 && i < bytes.length) {
                bytes[i] = (byte) b;
            }
        }

        int nibble(int i) {
            int b = get(i / 2);
            return i % 2 == 0 ? b >> 4 : b & 15;
        }

        void putNibble(int i, int value) {
            int b = get(i / 2);
            put(i / 2, i % 2 == 0 ? value << 4 | b & 15 : b & 240 | value);
        }
    }

    /** The two binary floating forms of IEEE 754, and which of their bits are of a valid size. */
    private static final class Floating {
        static final int FLOAT_BITS = 24;
        static final int FLOAT_BIAS = 127;
        static final int DOUBLE_BITS = 53;
        static final int DOUBLE_BIAS = 1023;

        // Bits without their sign rise with the size they stand for, so a valid size is a range of
        // bits: from the least one that is 10 to the -31 or more to the least that is 10 to the 31 or more.
        private static final long FLOAT_LEAST = 0x0c01ceb4L;
        private static final long FLOAT_END = 0x72fc6f7dL;
        private static final long DOUBLE_LEAST = 0x398039d665896880L;
        private static final long DOUBLE_END = 0x465f8def8808b025L;

        static int precision(Numeral numeral) {
            return numeral.usage == FLOAT ? FLOAT_BITS : DOUBLE_BITS;
        }

        static int bias(Numeral numeral) {
            return numeral.usage == FLOAT ? FLOAT_BIAS : DOUBLE_BIAS;
        }

        static boolean tooSmall(Numeral numeral, long bits) {
            return bits < (numeral.usage == FLOAT ? FLOAT_LEAST : DOUBLE_LEAST);
        }

        static boolean tooGreat(Numeral numeral, long bits) {
            return bits >= (numeral.usage == FLOAT ? FLOAT_END : DOUBLE_END);
        }
    }

    /** A value: over / under, under being never 0. Zero is not negative. */
    private static final class Fraction {
        boolean negative;
        final Natural over = new Natural();
        final Natural under = new Natural();

        void sign(boolean minus) {
            negative = minus && !over.isZero();
        }

        void becomeOver(Natural size, boolean minus) {
            over.copy(size);
            sign(minus);
        }

        void becomeWhole(long value) {
            // Read without a sign, the lowest long's complement is its size, too.
            over.become(value < 0 ? -value : value);
            under.become(1);
            sign(value < 0);
        }
    }

    /** Reads values out of bytes. */
    private static final class Reader {
        private static final int PLUS = 1;
        private static final int MINUS = -1;
        private static final int NO_SIGN = 0;

        private final Natural limit = new Natural();

        /** Whether the bytes are valid; only then value becomes theirs. */
        boolean read(Numeral numeral, Fraction value) {
            value.negative = false;
            value.over.become(0);
            value.under.become(1);
            boolean good = readSize(numeral, value);
            if (!numeral.floating()) {
                value.under.timesTenTo(numeral.scale);
            }
            value.sign(value.negative);
            return good;
        }

        private boolean readSize(Numeral numeral, Fraction value) {
            switch (numeral.usage) {
                case PACKED:
                case PACKED_SIGNLESS:
                    return readPacked(numeral, value);
                case BINARY:
                    return readBinary(numeral, value) && belowTenTo(numeral.digits, value.over);
                case WHOLE:
                    return readBinary(numeral, value);
                case FLOAT:
                case DOUBLE:
                    return readFloating(numeral, value);
                case NATIONAL:
                    return readNational(numeral, value);
                default:
                    return readZoned(numeral, value);
            }
        }

        private boolean readZoned(Numeral numeral, Fraction value) {
            int start = numeral.firstZonedByte();
            int signedDigit = numeral.signedDigit();
            for (int i = 0; i < numeral.digits; i++) {
                int b = numeral.get(start + i);
                boolean zoned = i == signedDigit ? takeSign(signOfNibble(b >> 4), value) : b >> 4 == 15;
                if (!zoned || !appendDigit(b & 15, value)) {
                    return false;
                }
            }
            int signByte = numeral.signByte();
            return signByte == NONE || takeSign(signOfByte(numeral.get(signByte), 0x4e, 0x60), value);
        }

        private boolean readPacked(Numeral numeral, Fraction value) {
            int lead = numeral.packedLead();
            if (lead == 1 && numeral.nibble(0) != 0) {
                return false;
            }
            for (int i = 0; i < numeral.digits; i++) {
                if (!appendDigit(numeral.nibble(lead + i), value)) {
                    return false;
                }
            }
            int sign = numeral.nibble(lead + numeral.digits);
            return numeral.signless() ? sign == 15 : takeSign(signOfNibble(sign), value);
        }

        private boolean readNational(Numeral numeral, Fraction value) {
            for (int i = 0; i < numeral.digits; i++) {
                int low = numeral.get(2 * i + 1);
                if (numeral.get(2 * i) != 0 || low >> 4 != 3 || !appendDigit(low & 15, value)) {
                    return false;
                }
            }
            int last = 2 * numeral.digits;
            return numeral.get(last) == 0 && takeSign(signOfByte(numeral.get(last + 1), 0x2b, 0x2d), value);
        }

        private boolean readBinary(Numeral numeral, Fraction value) {
            value.negative = numeral.get(0) >= 128;
            for (int i = 0; i < numeral.bytes.length; i++) {
                int b = numeral.get(i);
                value.over.timesPlus(256, value.negative ? 255 - b : b);
            }
            if (value.negative) {
                value.over.timesPlus(1, 1);
            }
            return true;
        }

        private boolean readFloating(Numeral numeral, Fraction value) {
            long bits = numeral.get(0) & 127;
            for (int i = 1; i < numeral.bytes.length; i++) {
                bits = bits << 8 | numeral.get(i);
            }
            if (bits == 0) {
                return true;
            }
            // What is neither finite nor normal has no valid size, so no form but the normal one is read.
            if (Floating.tooSmall(numeral, bits) || Floating.tooGreat(numeral, bits)) {
                return false;
            }
            int stored = Floating.precision(numeral) - 1;
            int exponent = (int) (bits >> stored) - Floating.bias(numeral) - stored;
            value.negative = numeral.get(0) >= 128;
            value.over.become(bits & (1L << stored) - 1 | 1L << stored);
            value.over.shiftLeft(Math.max(exponent, 0));
            value.under.shiftLeft(Math.max(-exponent, 0));
            return true;
        }

        private boolean belowTenTo(int digits, Natural whole) {
            limit.become(1);
            limit.timesTenTo(digits);
            return whole.against(limit) < 0;
        }

        private static boolean appendDigit(int digit, Fraction value) {
            if (digit > 9) {
                return false;
            }
            value.over.timesPlus(10, digit);
            return true;
        }

        private static boolean takeSign(int sign, Fraction value) {
            value.negative = sign == MINUS;
            return sign != NO_SIGN;
        }

        private static int signOfNibble(int nibble) {
            if (nibble < 10) {
                return NO_SIGN;
            }
            return nibble == 11 || nibble == 13 ? MINUS : PLUS;
        }

        private static int signOfByte(int b, int plus, int minus) {
            return b == plus ? PLUS : b == minus ? MINUS : NO_SIGN;
        }
    }

    /** Writes whole numbers that fit into bytes; what it writes is used up. */
    private static final class Writer {
        private static final int PLUS = 12;
        private static final int MINUS = 13;

        void write(Numeral numeral, Natural whole, boolean negative) {
            switch (numeral.usage) {
                case PACKED:
                case PACKED_SIGNLESS:
                    writePacked(numeral, whole, negative);
                    break;
                case BINARY:
                case WHOLE:
                    writeBinary(numeral, whole, negative);
                    break;
                case NATIONAL:
                    writeNational(numeral, whole, negative);
                    break;
                default:
                    writeZoned(numeral, whole, negative);
            }
        }

        private void writeZoned(Numeral numeral, Natural whole, boolean negative) {
            int start = numeral.firstZonedByte();
            int signedDigit = numeral.signedDigit();
            for (int i = numeral.digits - 1; i >= 0; i--) {
                int zone = i == signedDigit ? signNibble(negative) : 15;
                numeral.put(start + i, zone << 4 | whole.takeDigit());
            }
            int signByte = numeral.signByte();
            if (signByte != NONE) {
                numeral.put(signByte, negative ? 0x60 : 0x4e);
            }
        }

        private void writePacked(Numeral numeral, Natural whole, boolean negative) {
            int lead = numeral.packedLead();
            if (lead == 1) {
                numeral.putNibble(0, 0);
            }
            for (int i = numeral.digits - 1; i >= 0; i--) {
                numeral.putNibble(lead + i, whole.takeDigit());
            }
            numeral.putNibble(lead + numeral.digits, numeral.signless() ? 15 : signNibble(negative));
        }

        private void writeNational(Numeral numeral, Natural whole, boolean negative) {
            for (int i = numeral.digits - 1; i >= 0; i--) {
                numeral.put(2 * i, 0);
                numeral.put(2 * i + 1, 0x30 | whole.takeDigit());
            }
            numeral.put(2 * numeral.digits, 0);
            numeral.put(2 * numeral.digits + 1, negative ? 0x2d : 0x2b);
        }

        private void writeBinary(Numeral numeral, Natural whole, boolean negative) {
            int carry = 1;
            for (int i = numeral.bytes.length - 1; i >= 0; i--) {
                int b = whole.takeOctet();
                if (negative) {
                    b = 255 - b + carry;
                    carry = b >> 8;
                }
                numeral.put(i, b);
            }
        }

        void writeFloating(Numeral numeral, long bits, boolean negative) {
            long left = bits;
            for (int i = numeral.bytes.length - 1; i >= 0; i--) {
                numeral.put(i, (int) (left & 255));
                left >>= 8;
            }
            if (negative) {
                numeral.put(0, numeral.get(0) | 128);
            }
        }

        private static int signNibble(boolean negative) {
            return negative ? MINUS : PLUS;
        }
    }

    /** Exact arithmetic on values. The outcome is another fraction than the ones it is made of. */
    private static final class Arithmetic {
        private final Natural left = new Natural();
        private final Natural right = new Natural();
        private final Natural quotient = new Natural();
        private final Natural spare = new Natural();

        /** a plus b, b's sign being the one told. */
        void add(Fraction a, Fraction b, boolean negativeB, Fraction outcome) {
            cross(a, b);
            outcome.under.becomeProduct(a.under, b.under);
            if (a.negative == negativeB) {
                left.plus(right);
                outcome.becomeOver(left, a.negative);
            } else if (left.against(right) < 0) {
                right.minus(left);
                outcome.becomeOver(right, negativeB);
            } else {
                left.minus(right);
                outcome.becomeOver(left, a.negative);
            }
        }

        void multiply(Fraction a, Fraction b, Fraction outcome) {
            outcome.over.becomeProduct(a.over, b.over);
            outcome.under.becomeProduct(a.under, b.under);
            outcome.sign(a.negative != b.negative);
        }

        /** a / b; false if b is 0. */
        boolean divide(Fraction a, Fraction b, Fraction outcome) {
            if (b.over.isZero()) {
                return false;
            }
            outcome.over.becomeProduct(a.over, b.under);
            outcome.under.becomeProduct(a.under, b.over);
            outcome.sign(a.negative != b.negative);
            return true;
        }

        /** What a leaves when b is taken from it as often as it goes; false if b is 0. */
        boolean remainder(Fraction a, Fraction b, Fraction outcome) {
            if (b.over.isZero()) {
                return false;
            }
            cross(a, b);
            left.divide(right, quotient, spare);
            outcome.becomeOver(left, a.negative);
            outcome.under.becomeProduct(a.under, b.under);
            return true;
        }

        /** a times 10 to the power. */
        void shift(Fraction a, int power, Fraction outcome) {
            outcome.becomeOver(a.over, a.negative);
            outcome.under.copy(a.under);
            outcome.over.timesTenTo(power);
            outcome.under.timesTenTo(-power);
        }

        boolean divideWhole(Fraction a, Fraction b, Fraction outcome) {
            long divisor = wholeBits(b);
            if (divisor == 0) {
                return false;
            }
            outcome.becomeWhole(wholeBits(a) / divisor);
            return true;
        }

        boolean remainderWhole(Fraction a, Fraction b, Fraction outcome) {
            long divisor = wholeBits(b);
            if (divisor == 0) {
                return false;
            }
            outcome.becomeWhole(wholeBits(a) % divisor);
            return true;
        }

        /** The lowest 64 bits of a value's whole part. */
        long wholeBits(Fraction a) {
            left.copy(a.over);
            left.divide(a.under, quotient, spare);
            return a.negative ? -quotient.lowBits() : quotient.lowBits();
        }

        int order(Fraction a, Fraction b) {
            if (a.negative != b.negative) {
                return a.negative ? -1 : 1;
            }
            cross(a, b);
            return a.negative ? right.against(left) : left.against(right);
        }

        /** Left and right become what a and b are over one and the same number. */
        private void cross(Fraction a, Fraction b) {
            left.becomeProduct(a.over, b.under);
            right.becomeProduct(b.over, a.under);
        }
    }

    /** Brings values into numbers: storing, which rounds and finds size errors, and moving, which cuts. */
    private static final class Storage {
        private static final long TOO_GREAT = -1;

        private final Writer writer = new Writer();
        private final Natural whole = new Natural();
        private final Natural rest = new Natural();
        private final Natural under = new Natural();
        private final Natural spare = new Natural();
        /** Whether the floating bits made last are just the value. */
        private boolean exact;

        /** False, and nothing is stored, for a size error. */
        boolean store(Numeral numeral, Fraction value) {
            if (numeral.floating()) {
                return storeFloating(numeral, value);
            }
            split(value, numeral.scale);
            if (!rest.isZero()) {
                if (numeral.rounding == NOT_AT_ALL) {
                    return false;
                }
                if (roundsAway(numeral.rounding, value)) {
                    whole.timesPlus(1, 1);
                }
            }
            boolean negative = value.negative && !numeral.signless() && !whole.isZero();
            if (!fits(numeral, negative)) {
                return false;
            }
            writer.write(numeral, whole, negative);
            return true;
        }

        /** Whether the value is the same after the move. */
        boolean move(Numeral numeral, Fraction value) {
            if (numeral.floating()) {
                return moveFloating(numeral, value);
            }
            split(value, numeral.scale);
            boolean negative = value.negative && !numeral.signless();
            boolean same = rest.isZero() && negative == value.negative && fits(numeral, negative);
            if (numeral.usage != WHOLE) {
                keepDigits(numeral.digits);
            }
            writer.write(numeral, whole, negative && !whole.isZero());
            return same;
        }

        private boolean storeFloating(Numeral numeral, Fraction value) {
            long bits = nearest(numeral, value);
            if (bits == TOO_GREAT || numeral.rounding == NOT_AT_ALL && !exact) {
                return false;
            }
            writer.writeFloating(numeral, bits, value.negative && bits != 0);
            return true;
        }

        private boolean moveFloating(Numeral numeral, Fraction value) {
            long bits = nearest(numeral, value);
            if (bits == TOO_GREAT) {
                return false;
            }
            writer.writeFloating(numeral, bits, value.negative && bits != 0);
            return exact;
        }

        /** Whole becomes the value's size times 10 to the scale, cut, and rest / under what was cut off. */
        private void split(Fraction value, int scale) {
            rest.copy(value.over);
            rest.timesTenTo(scale);
            under.copy(value.under);
            rest.divide(under, whole, spare);
        }

        private boolean roundsAway(int rounding, Fraction value) {
            rest.shiftLeft(1);
            int toHalf = rest.against(under);
            switch (rounding) {
                case HALVES_AWAY:
                    return toHalf >= 0;
                case HALVES_EVEN:
                    return toHalf > 0 || toHalf == 0 && whole.isOdd();
                case HALVES_TO_ZERO:
                    return toHalf > 0;
                case AWAY:
                    return true;
                case UP:
                    return !value.negative;
                case DOWN:
                    return value.negative;
                default:
                    return false;
            }
        }

        private boolean fits(Numeral numeral, boolean negative) {
            spare.become(1);
            if (numeral.usage == WHOLE) {
                spare.shiftLeft(8 * numeral.bytes.length - 1);
            } else {
                spare.timesTenTo(numeral.digits);
            }
            int toLimit = whole.against(spare);
            return toLimit < 0 || toLimit == 0 && negative && numeral.usage == WHOLE;
        }

        private void keepDigits(int digits) {
            rest.copy(whole);
            under.become(1);
            under.timesTenTo(digits);
            rest.divide(under, whole, spare);
            whole.copy(rest);
        }

        /** The bits, without the sign, of the nearest floating number, 0 for one that is too small; or TOO_GREAT. */
        private long nearest(Numeral numeral, Fraction value) {
            exact = value.over.isZero();
            if (exact) {
                return 0;
            }
            int precision = Floating.precision(numeral);
            int exponent = scaleTo(precision + 1, value);
            int extra = whole.bitLength() - precision;
            long biased = exponent + extra + precision - 1 + Floating.bias(numeral);
            // What rounds up to the next power of two carries into the exponent by itself. An exponent
            // that the form does not have makes bits below or above those of all valid sizes, too.
            long bits = (biased << precision - 1) + roundOff(extra) - (1L << precision - 1);
            if (Floating.tooGreat(numeral, bits)) {
                return TOO_GREAT;
            }
            if (Floating.tooSmall(numeral, bits)) {
                exact = false;
                return 0;
            }
            return bits;
        }

        /** Whole becomes value / 2 to the answer, cut, with so many bits or one more; rest what is cut off. */
        private int scaleTo(int bits, Fraction value) {
            rest.copy(value.over);
            under.copy(value.under);
            int exponent = rest.bitLength() - under.bitLength() - bits;
            rest.shiftLeft(Math.max(-exponent, 0));
            under.shiftLeft(Math.max(exponent, 0));
            rest.divide(under, whole, spare);
            return exponent;
        }

        /** Whole without its extra bits (one or two), to the nearest, halves to the even one. */
        private long roundOff(int extra) {
            long scaled = whole.lowBits();
            long kept = scaled >> extra;
            long tail = scaled - (kept << extra);
            long middle = 1L << extra - 1;
            exact = tail == 0 && rest.isZero();
            boolean up = tail > middle || tail == middle && (!rest.isZero() || (kept & 1) == 1);
            return up ? kept + 1 : kept;
        }
    }

    /**
     * A natural number that is changed in place. Its limbs are of 31 bits, the lowest first; those from
     * used on are 0. The greatest number that any call makes, a sum times 10 to the 31, has less than
     * 400 bits of the 620; what would not fit is left undone, so that no index goes astray.
     */
    private static final class Natural {
        private static final int LIMBS = 20;
        private static final int LIMB_BITS = 31;
        private static final int LIMB_MASK = 0x7fffffff;
        private static final int MOST_TENS = 9;
        private static final int[] TENS = {
            1, 10, 100, 1000, 10000, 100000, 1000000, 10000000, 100000000, 1000000000
        };

        private final int[] limbs = new int[LIMBS];
        private int used;

        void clear() {
            for (int i = 0; i < used; i++) {
                limbs[i] = 0;
            }
            used = 0;
        }

        /** Becomes what the bits are without a sign. */
        void become(long bits) {
            clear();
            limbs[0] = (int) bits & LIMB_MASK;
            limbs[1] = (int) (bits >>> LIMB_BITS) & LIMB_MASK;
            limbs[2] = (int) (bits >>> 2 * LIMB_BITS);
            settle(3);
        }

        void copy(Natural other) {
            clear();
            for (int i = 0; i < other.used; i++) {
                limbs[i] = other.limbs[i];
            }
            used = other.used;
        }

        boolean isZero() {
            return used == 0;
        }

        boolean isOdd() {
            return (limbs[0] & 1) == 1;
        }

        long lowBits() {
            return limbs[0] | (long) limbs[1] << LIMB_BITS | (long) limbs[2] << 2 * LIMB_BITS;
        }

        int bitLength() {
            return used == 0 ? 0 : (used - 1) * LIMB_BITS + topLength();
        }

        private int topLength() {
            int length = 0;
            while (length < LIMB_BITS && used > 0 && limbs[used - 1] >> length != 0) {
                length++;
            }
            return length;
        }

        /** Used becomes the count of limbs up to the highest one that is not 0, below the bound. */
        private void settle(int bound) {
            used = bound;
            while (used > 0 && limbs[used - 1] == 0) {
                used--;
            }
        }

        int against(Natural other) {
            if (used != other.used) {
                return used < other.used ? -1 : 1;
            }
            for (int i = used - 1; i >= 0; i--) {
                if (limbs[i] != other.limbs[i]) {
                    return limbs[i] < other.limbs[i] ? -1 : 1;
                }
            }
            return 0;
        }

        void timesPlus(int factor, int more) {
            long carry = more;
            for (int i = 0; i < used; i++) {
                carry += (long) limbs[i] * factor;
                limbs[i] = (int) carry & LIMB_MASK;
                carry >>= LIMB_BITS;
            }
            if (carry != 0 && used < LIMBS) {
                limbs[used] = (int) carry;
                used++;
            }
        }

        /** Nothing for a power below 0. */
        void timesTenTo(int power) {
            for (int left = power; left > 0; left -= MOST_TENS) {
                timesPlus(TENS[Math.min(left, MOST_TENS)], 0);
            }
        }

        void plus(Natural other) {
            int bound = Math.max(used, other.used);
            long carry = 0;
            for (int i = 0; i < bound; i++) {
                carry += (long) limbs[i] + other.limbs[i];
                limbs[i] = (int) carry & LIMB_MASK;
                carry >>= LIMB_BITS;
            }
            used = bound;
            if (carry != 0 && used < LIMBS) {
                limbs[used] = (int) carry;
                used++;
            }
        }

        /** Takes away another one that is not greater. */
        void minus(Natural other) {
            long borrow = 0;
            for (int i = 0; i < used; i++) {
                borrow += (long) limbs[i] - other.limbs[i];
                limbs[i] = (int) borrow & LIMB_MASK;
                borrow >>= LIMB_BITS;
            }
            settle(used);
        }

        /** Neither factor is this one. */
        void becomeProduct(Natural a, Natural b) {
            clear();
            if (a.used + b.used > LIMBS) {
                return;
            }
            for (int i = 0; i < a.used; i++) {
                long carry = 0;
                for (int j = 0; j < b.used; j++) {
                    carry += (long) a.limbs[i] * b.limbs[j] + limbs[i + j];
                    limbs[i + j] = (int) carry & LIMB_MASK;
                    carry >>= LIMB_BITS;
                }
                limbs[i + b.used] = (int) carry;
            }
            settle(a.used + b.used);
        }

        void shiftLeft(int bits) {
            int jump = bits / LIMB_BITS;
            int step = bits % LIMB_BITS;
            if (bits <= 0 || used + jump >= LIMBS) {
                return;
            }
            for (int i = used; i >= 0; i--) {
                long below = i > 0 ? limbs[i - 1] : 0;
                limbs[i + jump] = (int) ((long) limbs[i] << step | below >> LIMB_BITS - step) & LIMB_MASK;
            }
            for (int i = 0; i < jump; i++) {
                limbs[i] = 0;
            }
            settle(used + jump + 1);
        }

        /** By less than a limb. */
        private void shiftRight(int bits) {
            for (int i = 0; i < used; i++) {
                long above = i + 1 < used ? limbs[i + 1] : 0;
                limbs[i] = (int) ((above << LIMB_BITS | limbs[i]) >> bits) & LIMB_MASK;
            }
            settle(used);
        }

        /** Divides by 10; what is left is the lowest digit. */
        int takeDigit() {
            long left = 0;
            for (int i = used - 1; i >= 0; i--) {
                left = left << LIMB_BITS | limbs[i];
                limbs[i] = (int) (left / 10);
                left %= 10;
            }
            settle(used);
            return (int) left;
        }

        /** Divides by 256; what is left is the lowest byte. */
        int takeOctet() {
            int lowest = limbs[0] & 255;
            shiftRight(8);
            return lowest;
        }

        /**
         * Becomes what is left of it after a division by another one that is not 0; quotient and scaled
         * are two more, that become the quotient and the divisor with its highest bit at a limb's top,
         * which keeps the guesses close (Knuth's algorithm D).
         */
        void divide(Natural divisor, Natural quotient, Natural scaled) {
            quotient.clear();
            if (divisor.used == 0 || used + 1 >= LIMBS || against(divisor) < 0) {
                return;
            }
            int step = LIMB_BITS - divisor.topLength();
            scaled.copy(divisor);
            scaled.shiftLeft(step);
            shiftLeft(step);
            int places = used - scaled.used + 1;
            for (int place = places - 1; place >= 0; place--) {
                quotient.limbs[place] = takeTimes(scaled, place);
            }
            quotient.settle(places);
            settle(used);
            shiftRight(step);
        }

        /** Takes the divisor, moved up by so many limbs, away as often as it goes: how often. */
        private int takeTimes(Natural divisor, int place) {
            int times = guessTimes(divisor, place);
            int end = place + divisor.used;
            long carry = 0;
            for (int i = place; i < end; i++) {
                carry += limbs[i] - (long) times * divisor.limbs[i - place];
                limbs[i] = (int) carry & LIMB_MASK;
                carry >>= LIMB_BITS;
            }
            boolean tooOften = limbs[end] + carry < 0;
            limbs[end] = 0;
            if (!tooOften) {
                return times;
            }
            carry = 0;
            for (int i = place; i < end; i++) {
                carry += (long) limbs[i] + divisor.limbs[i - place];
                limbs[i] = (int) carry & LIMB_MASK;
                carry >>= LIMB_BITS;
            }
            return times - 1;
        }

        /** How often the divisor goes, or one more than that, by the highest limbs alone. */
        private int guessTimes(Natural divisor, int place) {
            int end = place + divisor.used;
            long top = divisor.used > 0 ? divisor.limbs[divisor.used - 1] : 0;
            if (top == 0) {
                return 0;
            }
            long two = (long) limbs[end] << LIMB_BITS | limbs[end - 1];
            long times = two / top;
            long left = two % top;
            long next = divisor.used > 1 ? divisor.limbs[divisor.used - 2] : 0;
            long third = divisor.used > 1 ? limbs[end - 2] : 0;
            for (int i = 0; i < 2 && left <= LIMB_MASK; i++) {
                if (times > LIMB_MASK || times * next > (left << LIMB_BITS | third)) {
                    times--;
                    left += top;
                }
            }
            return (int) times;
        }
    }
}
