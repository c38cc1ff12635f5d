import java.math.BigDecimal;
import java.math.BigInteger;
import java.math.MathContext;
import java.util.ArrayList;
import java.util.List;

/**
 * The document said once more, by the library's BigInteger and its float and double, for the program
 * to be held against. It shares no code and no way of reckoning with the program.
 */
final class Model {
    static final String BOUNDS = "java.lang.ArrayIndexOutOfBoundsException";
    static final String ARITHMETIC = "java.lang.ArithmeticException";
    static final String NEGATIVE = "java.lang.NegativeArraySizeException";

    /** What a call throws in the model. */
    static final class Thrown extends RuntimeException {
        private static final long serialVersionUID = 1;
        final String name;

        Thrown(String name) {
            super(name, null, false, false);
            this.name = name;
        }
    }

    static final class Item {
        int usage;
        int n;
        int s;
        int rounding;
        byte[] bytes;
    }

    /** A rational number, its denominator above 0. */
    static final class Ratio implements Comparable<Ratio> {
        final BigInteger p;
        final BigInteger q;

        Ratio(BigInteger p, BigInteger q) {
            BigInteger g = p.gcd(q);
            BigInteger sign = BigInteger.valueOf(q.signum());
            this.p = p.divide(g).multiply(sign);
            this.q = q.divide(g).multiply(sign);
        }

        static Ratio of(BigDecimal d) {
            return d.scale() >= 0 ? new Ratio(d.unscaledValue(), BigInteger.TEN.pow(d.scale()))
                    : new Ratio(d.toBigIntegerExact(), BigInteger.ONE);
        }

        static Ratio of(BigInteger i) {
            return new Ratio(i, BigInteger.ONE);
        }

        Ratio minus(Ratio o) {
            return new Ratio(p.multiply(o.q).subtract(o.p.multiply(q)), q.multiply(o.q));
        }

        Ratio times(Ratio o) {
            return new Ratio(p.multiply(o.p), q.multiply(o.q));
        }

        Ratio abs() {
            return new Ratio(p.abs(), q);
        }

        BigInteger trunc() {
            return p.divide(q);
        }

        public int compareTo(Ratio o) {
            return p.multiply(o.q).compareTo(o.p.multiply(q));
        }
    }

    static final Ratio LEAST = new Ratio(BigInteger.ONE, BigInteger.TEN.pow(31));
    static final Ratio END = Ratio.of(BigInteger.TEN.pow(31));

    final List<Item> items = new ArrayList<>();

    Item item(int number) {
        if (number < 0 || number >= items.size()) {
            throw new Thrown(BOUNDS);
        }
        return items.get(number);
    }

    int number(int usage, int digits, int scale) {
        if (digits < 0) {
            throw new Thrown(NEGATIVE);
        }
        if (usage < 0 || usage > 11 || digits < 1 || digits > 31 || scale < 0 || scale > digits || items.size() == 64) {
            return -1;
        }
        Item x = new Item();
        x.usage = usage;
        x.n = digits;
        x.s = scale;
        int binary = digits > 18 ? 16 : digits > 9 ? 8 : digits > 4 ? 4 : 2;
        int[] lengths = {digits, digits, digits + 1, digits + 1, digits, digits / 2 + 1, digits / 2 + 1,
            binary, binary, 4, 8, digits * 2 + 2};
        x.bytes = new byte[lengths[usage]];
        items.add(x);
        return items.size() - 1;
    }

    void octet(int number, int i, byte b) {
        Item x = item(number);
        if (i < 0 || i >= x.bytes.length) {
            throw new Thrown(BOUNDS);
        }
        x.bytes[i] = b;
    }

    int at(int number, int i) {
        Item x = item(number);
        if (i < 0 || i >= x.bytes.length) {
            throw new Thrown(BOUNDS);
        }
        return x.bytes[i];
    }

    int size(int number) {
        return item(number).bytes.length;
    }

    static String hex(byte[] bytes) {
        StringBuilder text = new StringBuilder();
        for (byte b : bytes) {
            text.append(String.format("%02X", b & 255));
        }
        return text.toString();
    }

    /** The whole number of a text of digits whose sign is one of the letters; null if it is not such. */
    private static BigInteger signed(String digits, String sign, String plus, String minus) {
        if (!digits.matches("[0-9]+") || !plus.contains(sign) && !minus.contains(sign)) {
            return null;
        }
        BigInteger size = new BigInteger(digits);
        return minus.contains(sign) ? size.negate() : size;
    }

    /** Every second letter from the start on. */
    private static String second(String text, int start) {
        StringBuilder out = new StringBuilder();
        for (int i = start; i < text.length(); i += 2) {
            out.append(text.charAt(i));
        }
        return out.toString();
    }

    /** The whole number, of all usages but 9 and 10; null if it is not valid. */
    BigInteger whole(Item x) {
        String h = hex(x.bytes);
        int n = x.n;
        switch (x.usage) {
            case 0:
                return h.matches("(F.)*..") ? signed(second(h, 1), h.substring(2 * n - 2, 2 * n - 1), "ACEF", "BD") : null;
            case 1:
                return h.matches("..(F.)*") ? signed(second(h, 1), h.substring(0, 1), "ACEF", "BD") : null;
            case 2:
                return h.matches("(F.)*(4E|60)") ? signed(second(h.substring(0, 2 * n), 1), h.substring(2 * n), "4E", "60") : null;
            case 3:
                return h.matches("(4E|60)(F.)*") ? signed(second(h.substring(2), 1), h.substring(0, 2), "4E", "60") : null;
            case 4:
                return h.matches("(F.)*") ? signed(second(h, 1), "F", "F", "-") : null;
            case 5:
                return n % 2 == 1 || h.startsWith("0")
                        ? signed(h.substring(0, h.length() - 1), h.substring(h.length() - 1), "ACEF", "BD") : null;
            case 6:
                return n % 2 == 1 || h.startsWith("0")
                        ? signed(h.substring(0, h.length() - 1), h.substring(h.length() - 1), "F", "-") : null;
            case 7:
                BigInteger w = new BigInteger(x.bytes);
                return w.abs().compareTo(BigInteger.TEN.pow(n)) < 0 ? w : null;
            case 8:
                return new BigInteger(x.bytes);
            default:
                return h.matches("(003.)*00(2B|2D)")
                        ? signed(second(second(h.substring(0, 4 * n), 1), 1), h.substring(4 * n + 2), "2B", "2D") : null;
        }
    }

    Ratio value(Item x) {
        if (x.usage != 9 && x.usage != 10) {
            BigInteger w = whole(x);
            return w == null ? null : new Ratio(w, BigInteger.TEN.pow(x.s));
        }
        double d = x.usage == 9 ? Float.intBitsToFloat(new BigInteger(x.bytes).intValue())
                : Double.longBitsToDouble(new BigInteger(x.bytes).longValue());
        if (Double.isNaN(d) || Double.isInfinite(d)) {
            return null;
        }
        Ratio r = Ratio.of(new BigDecimal(d));
        return r.p.signum() == 0 || r.abs().compareTo(LEAST) >= 0 && r.abs().compareTo(END) < 0 ? r : null;
    }

    /** The nearest floating number to a size, by looking at the distances of three neighbours. */
    static double nearest(Ratio size, boolean single) {
        BigDecimal about = new BigDecimal(size.p).divide(new BigDecimal(size.q), new MathContext(60));
        double guess = single ? about.floatValue() : about.doubleValue();
        double[] tries = single ? new double[] {guess, Math.nextUp((float) guess), Math.nextDown((float) guess)}
                : new double[] {guess, Math.nextUp(guess), Math.nextDown(guess)};
        double best = guess;
        for (double t : tries) {
            if (Double.isInfinite(t) || Double.isNaN(t) || t < 0) {
                continue;
            }
            if (Double.isInfinite(best)) {
                return best;
            }
            int c = Ratio.of(new BigDecimal(t)).minus(size).abs().compareTo(Ratio.of(new BigDecimal(best)).minus(size).abs());
            boolean even = ((single ? Float.floatToIntBits((float) t) : Double.doubleToLongBits(t)) & 1) == 0;
            if (c < 0 || c == 0 && even) {
                best = t;
            }
        }
        return best;
    }

    /** What is stored in a floating number, or infinity if it is too great. */
    private static double floating(Ratio v, boolean single) {
        double d = nearest(v.abs(), single);
        if (Double.isInfinite(d) || Ratio.of(new BigDecimal(d)).compareTo(END) >= 0) {
            return Double.POSITIVE_INFINITY;
        }
        if (Ratio.of(new BigDecimal(d)).compareTo(LEAST) < 0) {
            return 0;
        }
        return v.p.signum() < 0 ? -d : d;
    }

    private static void writeFloating(Item x, double d) {
        long bits = x.usage == 9 ? Float.floatToIntBits((float) d) : Double.doubleToLongBits(d);
        for (int i = x.bytes.length - 1; i >= 0; i--) {
            x.bytes[i] = (byte) bits;
            bits >>= 8;
        }
    }

    static void write(Item x, BigInteger w) {
        String d = w.abs().toString();
        d = "0".repeat(Math.max(0, x.n - d.length())) + d;
        boolean minus = w.signum() < 0;
        String f = d.replaceAll("(.)", "F$1");
        String s = minus ? "D" : "C";
        int end = f.length();
        String h;
        switch (x.usage) {
            case 0: h = f.substring(0, end - 2) + s + f.substring(end - 1); break;
            case 1: h = s + f.substring(1); break;
            case 2: h = f + (minus ? "60" : "4E"); break;
            case 3: h = (minus ? "60" : "4E") + f; break;
            case 4: h = f; break;
            case 5: h = (x.n % 2 == 0 ? "0" : "") + d + s; break;
            case 6: h = (x.n % 2 == 0 ? "0" : "") + d + "F"; break;
            case 11: h = d.replaceAll("(.)", "003$1") + (minus ? "002D" : "002B"); break;
            default:
                BigInteger m = w.mod(BigInteger.TWO.pow(8 * x.bytes.length));
                h = m.toString(16);
                h = "0".repeat(2 * x.bytes.length - h.length()) + h;
        }
        for (int i = 0; i < x.bytes.length; i++) {
            x.bytes[i] = (byte) Integer.parseInt(h.substring(2 * i, 2 * i + 2), 16);
        }
    }

    static BigInteger floor(Ratio r) {
        BigInteger[] both = r.p.divideAndRemainder(r.q);
        return both[1].signum() < 0 ? both[0].subtract(BigInteger.ONE) : both[0];
    }

    /** The whole number that a scaled value is rounded to; null where it must not be rounded. */
    static BigInteger rounded(Ratio r, int kind) {
        BigInteger down = floor(r);
        if (r.q.equals(BigInteger.ONE)) {
            return down;
        }
        BigInteger up = down.add(BigInteger.ONE);
        BigInteger toZero = r.p.signum() > 0 ? down : up;
        BigInteger away = r.p.signum() > 0 ? up : down;
        int c = r.minus(Ratio.of(down)).compareTo(Ratio.of(up).minus(r));
        BigInteger near = c < 0 ? down : up;
        switch (kind) {
            case 0: return toZero;
            case 1: return c == 0 ? away : near;
            case 2: return c == 0 ? (down.testBit(0) ? up : down) : near;
            case 3: return c == 0 ? toZero : near;
            case 4: return away;
            case 5: return up;
            case 6: return down;
            default: return null;
        }
    }

    private static boolean holds(Item x, BigInteger w) {
        return x.usage == 8 ? w.bitLength() < 8 * x.bytes.length : w.abs().compareTo(BigInteger.TEN.pow(x.n)) < 0;
    }

    boolean store(Item x, Ratio v) {
        if (x.usage == 9 || x.usage == 10) {
            double d = floating(v, x.usage == 9);
            if (Double.isInfinite(d) || x.rounding == 7 && Ratio.of(new BigDecimal(d)).compareTo(v) != 0) {
                return false;
            }
            writeFloating(x, d);
            return true;
        }
        BigInteger w = rounded(v.times(Ratio.of(BigInteger.TEN.pow(x.s))), x.rounding);
        if (w == null) {
            return false;
        }
        if (x.usage == 4 || x.usage == 6) {
            w = w.abs();
        }
        if (!holds(x, w)) {
            return false;
        }
        write(x, w);
        return true;
    }

    int apply(int op, int a, int b, int into) {
        Item x = item(a);
        Item y = op == 5 ? null : item(b);
        Item to = item(into);
        if (op < 0 || op > 7 || op == 5 && Math.abs((long) b) > 40) {
            return -2;
        }
        Ratio v = value(x);
        Ratio w = y == null ? Ratio.of(BigInteger.ZERO) : value(y);
        if (v == null || w == null) {
            return -1;
        }
        Ratio r;
        if (op == 4 || op == 7) {
            long divisor = w.trunc().longValue();
            if (divisor == 0) {
                throw new Thrown(ARITHMETIC);
            }
            long whole = v.trunc().longValue();
            r = Ratio.of(BigInteger.valueOf(op == 4 ? whole / divisor : whole % divisor));
        } else if (op == 5) {
            BigInteger ten = BigInteger.TEN.pow(Math.abs(b));
            r = b >= 0 ? new Ratio(v.p.multiply(ten), v.q) : new Ratio(v.p, v.q.multiply(ten));
        } else if (op == 0) {
            r = v.minus(new Ratio(w.p.negate(), w.q));
        } else if (op == 1) {
            r = v.minus(w);
        } else if (op == 2) {
            r = v.times(w);
        } else if (w.p.signum() == 0) {
            return 0;
        } else {
            Ratio quotient = new Ratio(v.p.multiply(w.q), v.q.multiply(w.p));
            r = op == 3 ? quotient : v.minus(w.times(Ratio.of(quotient.trunc())));
        }
        return store(to, r) ? 1 : 0;
    }

    int compare(int a, int b) {
        Item x = item(a);
        Item y = item(b);
        Ratio v = value(x);
        Ratio w = value(y);
        return v == null || w == null ? -2 : v.compareTo(w);
    }

    boolean valid(int number) {
        return value(item(number)) != null;
    }

    int convert(int from, int to) {
        Item x = item(from);
        Item y = item(to);
        Ratio v = value(x);
        if (v == null) {
            return -1;
        }
        if (y.usage == 9 || y.usage == 10) {
            double d = floating(v, y.usage == 9);
            if (Double.isInfinite(d)) {
                return 0;
            }
            writeFloating(y, d);
        } else {
            BigInteger w = v.times(Ratio.of(BigInteger.TEN.pow(y.s))).trunc();
            if (y.usage != 8) {
                w = w.remainder(BigInteger.TEN.pow(y.n));
            }
            write(y, y.usage == 4 || y.usage == 6 ? w.abs() : w);
        }
        return value(y).compareTo(v) == 0 ? 1 : 0;
    }

    int digit(int number, int i) {
        Item x = item(number);
        if (i < 0 || i > 38 || x.usage == 9 || x.usage == 10 || whole(x) == null) {
            return -1;
        }
        return whole(x).abs().divide(BigInteger.TEN.pow(i)).mod(BigInteger.TEN).intValue();
    }

    int round(int number, int kind) {
        Item x = item(number);
        if (kind < 0 || kind > 7) {
            return -1;
        }
        int before = x.rounding;
        x.rounding = kind;
        return before;
    }

    int half(int number) {
        Ratio v = value(item(number));
        return v == null ? 0 : v.trunc().shortValue();
    }
}
