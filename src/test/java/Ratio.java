import java.math.BigInteger;

/** An exact fraction in lowest terms. */
final class Ratio implements Comparable<Ratio> {
    static final Ratio ZERO = of(0);
    static final Ratio ONE = of(1);
    static final Ratio HALF = of(1).over(of(2));

    final BigInteger above;
    final BigInteger below;

    private Ratio(BigInteger above, BigInteger below) {
        BigInteger common = above.gcd(below);
        if (below.signum() < 0) {
            common = common.negate();
        }
        this.above = above.divide(common);
        this.below = below.divide(common);
    }

    static Ratio of(long number) {
        return new Ratio(BigInteger.valueOf(number), BigInteger.ONE);
    }

    Ratio plus(Ratio other) {
        return new Ratio(above.multiply(other.below).add(other.above.multiply(below)), below.multiply(other.below));
    }

    Ratio minus(Ratio other) {
        return plus(other.times(of(-1)));
    }

    Ratio times(Ratio other) {
        return new Ratio(above.multiply(other.above), below.multiply(other.below));
    }

    Ratio over(Ratio other) {
        return new Ratio(above.multiply(other.below), below.multiply(other.above));
    }

    int sign() {
        return above.signum();
    }

    boolean isZero() {
        return sign() == 0;
    }

    Ratio floor() {
        BigInteger[] parts = above.divideAndRemainder(below);
        BigInteger down = parts[1].signum() < 0 ? parts[0].subtract(BigInteger.ONE) : parts[0];
        return new Ratio(down, BigInteger.ONE);
    }

    Ratio ceiling() {
        return of(0).minus(of(0).minus(this).floor());
    }

    long whole() {
        if (!below.equals(BigInteger.ONE)) {
            throw new IllegalStateException("no integer: " + above + " / " + below);
        }
        return above.longValueExact();
    }

    @Override
    public int compareTo(Ratio other) {
        return above.multiply(other.below).compareTo(other.above.multiply(below));
    }
}
