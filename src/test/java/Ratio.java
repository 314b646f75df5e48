import java.math.BigInteger;

/** An exact fraction. */
final class Ratio implements Comparable<Ratio> {
    static final Ratio ZERO = new Ratio(BigInteger.ZERO, BigInteger.ONE);
    static final Ratio ONE = new Ratio(BigInteger.ONE, BigInteger.ONE);
    final BigInteger upper;
    final BigInteger lower;

    private Ratio(BigInteger upper, BigInteger lower) {
        BigInteger g = upper.gcd(lower);
        this.upper = upper.divide(g);
        this.lower = lower.divide(g);
    }

    static Ratio of(long upper, long lower) {
        return new Ratio(BigInteger.valueOf(upper), BigInteger.valueOf(lower));
    }

    Ratio plus(Ratio o) {
        return new Ratio(upper.multiply(o.lower).add(o.upper.multiply(lower)), lower.multiply(o.lower));
    }

    Ratio times(Ratio o) {
        return new Ratio(upper.multiply(o.upper), lower.multiply(o.lower));
    }

    @Override
    public int compareTo(Ratio o) {
        return upper.multiply(o.lower).compareTo(o.upper.multiply(lower));
    }
}
