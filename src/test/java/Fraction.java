import java.math.BigInteger;

/** A share without limits, for the tests alone. */
record Fraction(BigInteger up, BigInteger down) {
    static final Fraction ZERO = of(0);

    Fraction {
        BigInteger common = up.gcd(down);
        if (down.signum() < 0) {
            common = common.negate();
        }
        up = up.divide(common);
        down = down.divide(common);
    }

    static Fraction of(long whole) {
        return new Fraction(BigInteger.valueOf(whole), BigInteger.ONE);
    }

    Fraction plus(Fraction other) {
        return new Fraction(up.multiply(other.down).add(other.up.multiply(down)), down.multiply(other.down));
    }

    Fraction minus(Fraction other) {
        return plus(other.times(of(-1)));
    }

    Fraction times(Fraction other) {
        return new Fraction(up.multiply(other.up), down.multiply(other.down));
    }

    Fraction times(long whole) {
        return times(of(whole));
    }

    Fraction by(Fraction other) {
        return new Fraction(up.multiply(other.down), down.multiply(other.up));
    }

    Fraction by(long whole) {
        return by(of(whole));
    }

    boolean isMoreThan(Fraction other) {
        return minus(other).sign() > 0;
    }

    Fraction least(Fraction other) {
        return isMoreThan(other) ? other : this;
    }

    Fraction most(Fraction other) {
        return isMoreThan(other) ? this : other;
    }

    int sign() {
        return up.signum();
    }

    long told(int which) {
        return (which == 0 ? up : down).longValueExact();
    }
}
