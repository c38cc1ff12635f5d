import java.math.BigDecimal;
import java.math.BigInteger;
import java.util.Arrays;

/** Many runs of calls, each answer and all bytes held against the model's. Always the same runs. */
public final class ModelRunsTest {
    private static final Check CHECK = new Check();
    /** What an object answers after so many calls is free. */
    private static final int MOST_CALLS = 512;
    /** The dearest round: 64 bytes written, a call, 64 bytes looked at, and three calls more. */
    private static final int MOST_CALLS_A_ROUND = 132;
    private static long seed = 88172645463325252L;
    private static int calls;

    private static int pick(int bound) {
        seed ^= seed << 13;
        seed ^= seed >>> 7;
        seed ^= seed << 17;
        return (int) Math.floorMod(seed >>> 11, (long) bound);
    }

    /** Rows of bits at the edges of 31-bit limbs, where a long division's guesses go wrong. */
    private static BigInteger edgeOfLimbs(int bytes) {
        int[] edges = {0, 1, 0x3fffffff, 0x40000000, 0x7fffffff, 0x40000001};
        BigInteger w = BigInteger.ZERO;
        for (int i = 1 + pick(5); i > 0; i--) {
            w = w.shiftLeft(31).add(BigInteger.valueOf(edges[pick(edges.length)]));
        }
        w = w.mod(BigInteger.TWO.pow(8 * bytes - 1));
        return pick(3) == 0 ? w.negate() : w;
    }

    private static BigInteger randomWhole(Model.Item x) {
        if (x.usage == 8 && pick(3) == 0) {
            return edgeOfLimbs(x.bytes.length);
        }
        if (x.usage == 8 && pick(2) == 0) {
            byte[] bits = new byte[x.bytes.length];
            int kind = pick(4);
            for (int i = 0; i < bits.length; i++) {
                bits[i] = kind == 0 ? (byte) pick(256) : kind == 1 ? 0 : (byte) (kind == 2 ? -1 : i == 0 ? -128 : 0);
            }
            return new BigInteger(bits);
        }
        int length = pick(3) == 0 ? x.n : 1 + pick(x.n);
        StringBuilder digits = new StringBuilder();
        int kind = pick(5);
        for (int i = 0; i < length; i++) {
            digits.append(kind == 0 ? 9 : kind == 1 ? (i == 0 ? 1 : 0) : kind == 2 ? (i == 0 ? 5 : 0) : pick(10));
        }
        BigInteger w = new BigInteger(digits.toString());
        w = pick(8) == 0 ? BigInteger.ZERO : w;
        w = x.usage == 8 ? w.mod(BigInteger.TWO.pow(8 * x.bytes.length - 1)) : w;
        return pick(2) == 0 || x.usage == 4 || x.usage == 6 ? w : w.negate();
    }

    private static double randomFloating() {
        double sign = pick(2) == 0 ? 1 : -1;
        switch (pick(8)) {
            case 0: return sign * pick(1000) / 8;
            case 1: return sign * Math.pow(2, pick(216) - 108);
            case 2: return sign * Math.pow(10, pick(66) - 33);
            case 3: return sign * (pick(2) == 0 ? 1e31 : 1e-31) * (1 + (pick(9) - 4) * (pick(2) == 0 ? 0x1p-52 : 0x1p-23));
            case 4: return sign * new BigDecimal(pick(100000)).scaleByPowerOfTen(pick(60) - 35).doubleValue();
            case 5: return pick(4) == 0 ? Double.NaN : sign * Double.POSITIVE_INFINITY;
            case 6: return sign * 0.0;
            default: return sign * (1 + pick(1 << 30) * 0x1p-30 + pick(1 << 22) * 0x1p-52) * Math.pow(2, pick(210) - 105);
        }
    }

    /** Bytes for a number, mostly valid ones, with all of the signs. */
    private static byte[] randomBytes(Model.Item real) {
        Model.Item x = new Model.Item();
        x.usage = real.usage;
        x.n = real.n;
        x.s = real.s;
        x.bytes = new byte[real.bytes.length];
        if (x.usage == 9 || x.usage == 10) {
            double d = randomFloating();
            long bits = x.usage == 9 ? Float.floatToRawIntBits((float) d) : Double.doubleToRawLongBits(d);
            for (int i = x.bytes.length - 1; i >= 0; i--) {
                x.bytes[i] = (byte) bits;
                bits >>= 8;
            }
        } else {
            Model.write(x, randomWhole(x));
        }
        int last = x.bytes.length - 1;
        if (pick(3) == 0) {
            int sign = pick(20) == 0 ? pick(16) : 10 + pick(6);
            int where = x.usage == 1 ? 0 : last;
            if (x.usage < 2) {
                x.bytes[where] = (byte) (x.bytes[where] & 15 | sign << 4);
            } else if (x.usage == 5) {
                x.bytes[last] = (byte) (x.bytes[last] & 240 | sign);
            }
        }
        if (pick(25) == 0) {
            x.bytes[pick(x.bytes.length)] = (byte) pick(256);
        }
        return x.bytes;
    }

    private static int wild(int below) {
        int kind = pick(60);
        return kind == 0 ? -1 : kind == 1 ? below : kind == 2 ? Integer.MIN_VALUE : kind == 3 ? Integer.MAX_VALUE : pick(Math.max(below, 1));
    }

    /** One call: its name and arguments. */
    private static final class Step {
        final int method;
        final int[] v;

        Step(int method, int... v) {
            this.method = method;
            this.v = v;
        }

        long real(PackedDecimals x) {
            switch (method) {
                case 0: return x.number(v[0], v[1], v[2]);
                case 1: x.octet(v[0], v[1], (byte) v[2]); return 0;
                case 2: return x.at(v[0], v[1]);
                case 3: return x.size(v[0]);
                case 4: return x.apply(v[0], v[1], v[2], v[3]);
                case 5: return x.compare(v[0], v[1]);
                case 6: return x.valid(v[0]) ? 1 : 0;
                case 7: return x.convert(v[0], v[1]);
                case 8: return x.digit(v[0], v[1]);
                case 9: return x.round(v[0], v[1]);
                default: return x.half(v[0]);
            }
        }

        long due(Model x) {
            switch (method) {
                case 0: return x.number(v[0], v[1], v[2]);
                case 1: x.octet(v[0], v[1], (byte) v[2]); return 0;
                case 2: return x.at(v[0], v[1]);
                case 3: return x.size(v[0]);
                case 4: return x.apply(v[0], v[1], v[2], v[3]);
                case 5: return x.compare(v[0], v[1]);
                case 6: return x.valid(v[0]) ? 1 : 0;
                case 7: return x.convert(v[0], v[1]);
                case 8: return x.digit(v[0], v[1]);
                case 9: return x.round(v[0], v[1]);
                default: return x.half(v[0]);
            }
        }

        @Override
        public String toString() {
            String[] names = {"number", "octet", "at", "size", "apply", "compare", "valid", "convert",
                "digit", "round", "half"};
            return names[method] + Arrays.toString(v);
        }
    }

    private static void take(PackedDecimals real, Model model, Step step) {
        String want = "";
        long wanted = 0;
        String got = "";
        long answered = 0;
        try {
            wanted = step.due(model);
        } catch (Model.Thrown thrown) {
            want = thrown.name;
        }
        calls++;
        try {
            answered = step.real(real);
        } catch (RuntimeException thrown) {
            got = Check.byMachine(thrown) ? "machine's " + thrown : thrown.getClass().getName();
        }
        if (!got.equals(want)) {
            System.out.println(step + " threw '" + got + "', due is '" + want + "'");
        }
        CHECK.due(step + " throwing", got.equals(want) ? 1 : 0, 1);
        CHECK.due(step.toString(), answered, wanted);
    }

    private static void sameBytes(PackedDecimals real, Model model, int number, Step step) {
        Model.Item x = model.items.get(number);
        calls += x.bytes.length;
        for (int i = 0; i < x.bytes.length; i++) {
            CHECK.due(step + " of usage " + x.usage + ", " + x.n + ", " + x.s + ", rounding " + x.rounding
                    + ", wants " + Model.hex(x.bytes) + ", byte " + i, real.at(number, i), x.bytes[i]);
        }
    }

    private static Step randomStep(int count) {
        int a = wild(count);
        int b = wild(count);
        int into = wild(count);
        switch (pick(12)) {
            case 0: return new Step(5, a, b);
            case 1: return new Step(6, a);
            case 2:
            case 3: return new Step(7, a, b);
            case 4: return new Step(8, a, pick(20) == 0 ? wild(39) : pick(41) - 1);
            case 5: return new Step(9, a, pick(20) == 0 ? wild(8) : pick(8));
            case 6: return new Step(10, a);
            case 7: return new Step(4, 5, a, pick(10) == 0 ? wild(41) : pick(83) - 41, into);
            default: return new Step(4, pick(40) == 0 ? wild(8) : pick(8), a, b, into);
        }
    }

    private static void fill(PackedDecimals real, Model model, int number) {
        byte[] bytes = randomBytes(model.items.get(number));
        calls += bytes.length;
        for (int i = 0; i < bytes.length; i++) {
            model.octet(number, i, bytes[i]);
            real.octet(number, i, bytes[i]);
        }
    }

    private static void round(PackedDecimals real, Model model) {
        int count = model.items.size();
        if (count > 0 && pick(3) > 0) {
            fill(real, model, pick(count));
        }
        Step step = randomStep(count);
        take(real, model, step);
        int changed = step.method == 4 ? step.v[3] : step.method == 7 ? step.v[1] : -1;
        if (changed >= 0 && changed < count) {
            sameBytes(real, model, changed, step);
        }
        if (pick(30) == 0) {
            take(real, model, new Step(1, wild(count), wild(64), pick(256)));
            take(real, model, new Step(2, wild(count), wild(64)));
            take(real, model, new Step(3, wild(count)));
        }
    }

    private static void run(int index) {
        CHECK.section("run " + index);
        calls = 0;
        PackedDecimals real = new PackedDecimals();
        Model model = new Model();
        int numbers = 1 + pick(8);
        for (int i = 0; i < numbers; i++) {
            int n = pick(4) == 0 ? 31 : 1 + pick(31);
            take(real, model, new Step(0, pick(50) == 0 ? wild(12) : pick(12), pick(50) == 0 ? wild(32) : n,
                    pick(50) == 0 ? wild(32) : pick(3) == 0 ? 0 : pick(n + 1)));
        }
        while (calls + MOST_CALLS_A_ROUND <= MOST_CALLS) {
            round(real, model);
        }
        for (int number = 0; number < model.items.size(); number++) {
            if (calls + model.size(number) <= MOST_CALLS) {
                sameBytes(real, model, number, new Step(3, number));
            }
        }
    }

    public static void main(String[] args) {
        int runs = args.length > 0 ? Integer.parseInt(args[0]) : 10000;
        for (int i = 0; i < runs && CHECK.good(); i++) {
            run(i);
        }
        CHECK.end("ModelRunsTest");
    }
}
