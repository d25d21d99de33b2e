import java.math.BigInteger;

/** A fraction in lowest terms, of any size. */
record Fraction(BigInteger above, BigInteger below) implements Comparable<Fraction> {
    static Fraction of(long above, long below) {
        return lowest(BigInteger.valueOf(above), BigInteger.valueOf(below));
    }

    private static Fraction lowest(BigInteger above, BigInteger below) {
        BigInteger shared = above.gcd(below);
        return new Fraction(above.divide(shared), below.divide(shared));
    }

    Fraction plus(Fraction other) {
        return lowest(above.multiply(other.below).add(other.above.multiply(below)), below.multiply(other.below));
    }

    Fraction minus(Fraction other) {
        return lowest(above.multiply(other.below).subtract(other.above.multiply(below)),
            below.multiply(other.below));
    }

    Fraction times(long n) {
        return lowest(above.multiply(BigInteger.valueOf(n)), below);
    }

    Fraction by(long n) {
        return lowest(above, below.multiply(BigInteger.valueOf(n)));
    }

    long part(int part) {
        return (part == 0 ? above : below).longValueExact();
    }

    @Override
    public int compareTo(Fraction other) {
        return above.multiply(other.below).compareTo(other.above.multiply(below));
    }
}
