import java.math.BigInteger;

/** Fractions in least terms, by the Java library. */
final class BigSum {
    private BigSum() {
    }

    static long over(long part, long whole) {
        return part / divisor(part, whole);
    }

    static long under(long part, long whole) {
        return whole / divisor(part, whole);
    }

    private static long divisor(long part, long whole) {
        return BigInteger.valueOf(part).gcd(BigInteger.valueOf(whole)).longValueExact();
    }
}
