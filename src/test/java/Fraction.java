import java.math.BigInteger;

/** A number as upper over lower in least terms, lower above 0. */
final class Fraction {
    final BigInteger upper;
    final BigInteger lower;

    private Fraction(BigInteger a, BigInteger b) {
        BigInteger shared = b.signum() < 0 ? a.gcd(b).negate() : a.gcd(b);
        upper = a.divide(shared);
        lower = b.divide(shared);
    }

    static Fraction of(long v) {
        return new Fraction(BigInteger.valueOf(v), BigInteger.ONE);
    }

    Fraction plus(Fraction o) {
        return new Fraction(upper.multiply(o.lower).add(o.upper.multiply(lower)), lower.multiply(o.lower));
    }

    Fraction less(Fraction o) {
        return plus(o.times(of(-1)));
    }

    Fraction times(Fraction o) {
        return new Fraction(upper.multiply(o.upper), lower.multiply(o.lower));
    }

    Fraction over(Fraction o) {
        return new Fraction(upper.multiply(o.lower), lower.multiply(o.upper));
    }

    Fraction over(long v) {
        return over(of(v));
    }
}
