import java.math.BigInteger;

/** A fraction in lowest terms, by the Java library's own whole numbers. */
final class PlainFraction {
    static final PlainFraction ZERO = of(0, 1);
    static final PlainFraction ONE = of(1, 1);

    final BigInteger top;
    final BigInteger bottom;

    private PlainFraction(BigInteger top, BigInteger bottom) {
        BigInteger common = top.gcd(bottom);
        common = bottom.signum() < 0 ? common.negate() : common;
        this.top = top.divide(common);
        this.bottom = bottom.divide(common);
    }

    static PlainFraction of(long top, long bottom) {
        return new PlainFraction(BigInteger.valueOf(top), BigInteger.valueOf(bottom));
    }

    PlainFraction plus(PlainFraction other) {
        return new PlainFraction(top.multiply(other.bottom).add(other.top.multiply(bottom)), bottom.multiply(other.bottom));
    }

    PlainFraction minus(PlainFraction other) {
        return plus(other.times(of(-1, 1)));
    }

    PlainFraction times(PlainFraction other) {
        return new PlainFraction(top.multiply(other.top), bottom.multiply(other.bottom));
    }

    PlainFraction over(PlainFraction other) {
        return new PlainFraction(top.multiply(other.bottom), bottom.multiply(other.top));
    }

    boolean isZero() {
        return top.signum() == 0;
    }

    boolean isSame(PlainFraction other) {
        return top.equals(other.top) && bottom.equals(other.bottom);
    }

    boolean isLong() {
        return top.abs().bitLength() > 256 || bottom.bitLength() > 256;
    }
}
