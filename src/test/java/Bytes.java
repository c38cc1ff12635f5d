import java.math.BigDecimal;
import java.math.BigInteger;

/** Numbers made of bytes in hexadecimal letters, and read back as such. */
final class Bytes {
    static void load(PackedDecimals x, int number, String hex) {
        for (int i = 0; i < hex.length() / 2; i++) {
            x.octet(number, i, (byte) Integer.parseInt(hex.substring(2 * i, 2 * i + 2), 16));
        }
    }

    static String of(PackedDecimals x, int number) {
        StringBuilder hex = new StringBuilder();
        for (int i = 0; i < x.size(number); i++) {
            hex.append(String.format("%02X", x.at(number, i) & 255));
        }
        return hex.toString();
    }

    /** A new number with these bytes. */
    static int made(PackedDecimals x, int usage, int digits, int scale, String hex) {
        int number = x.number(usage, digits, scale);
        load(x, number, hex);
        return number;
    }

    /** A new number, packed with 31 digits, of the value that a text tells. */
    static int decimal(PackedDecimals x, String text) {
        BigDecimal value = new BigDecimal(text);
        String digits = value.unscaledValue().abs().toString();
        String sign = value.signum() < 0 ? "D" : "C";
        return made(x, 5, 31, value.scale(), "0".repeat(31 - digits.length()) + digits + sign);
    }

    /** A whole number's lowest bytes, the highest first, as a complement of two. */
    static String complement(BigInteger whole, int count) {
        BigInteger bits = whole.mod(BigInteger.TWO.pow(8 * count));
        return String.format("%0" + 2 * count + "X", bits);
    }
}
