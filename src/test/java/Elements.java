import java.math.BigInteger;

/** ELEMENTS, and bytes that are none. */
final class Elements {
    private Elements() {
    }

    /** The base point so many times. */
    static byte[] of(long k) {
        return Model.element(Model.times(BigInteger.valueOf(k), Model.G));
    }

    /** With a first byte and an x, whatever they are. */
    static byte[] of(int first, BigInteger x) {
        return Model.join(Model.bytes(first, 1), Model.bytes(x, 48));
    }

    static boolean hasPoint(BigInteger x) {
        return Model.isSquare(Model.side(x.mod(Model.P)));
    }

    /** The first x from this one on, up or down, that a point has or that none has. */
    static BigInteger next(BigInteger from, int step, boolean having) {
        BigInteger x = from;
        while (hasPoint(x) != having) {
            x = x.add(BigInteger.valueOf(step));
        }
        return x;
    }

    static byte[] none() {
        return of(2, next(BigInteger.TEN, 1, false));
    }

    /** Of an x that a point has only where x may be P and more. */
    static byte[] beyond(int first) {
        return of(first, next(Model.P, 1, true));
    }

    /** All the ways not to be an ELEMENT. */
    static byte[][] wrong() {
        BigInteger x = Model.number(Model.slice(of(5), 1, 48));
        BigInteger most = BigInteger.ONE.shiftLeft(384).subtract(BigInteger.ONE);
        return new byte[][] {none(), of(0, x), of(1, x), of(4, x), of(5, x), of(0x82, x), of(0x83, x), of(255, x),
            new byte[49], of(2, Model.P), beyond(2), beyond(3), of(3, most)};
    }
}
