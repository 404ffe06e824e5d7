import java.math.BigInteger;
import java.util.Random;

/** The parts of a KEY of TYPE 2. */
final class Rsa {
    final BigInteger n, e, d;
    final int len, salt;

    Rsa(BigInteger n, BigInteger e, BigInteger d, int salt) {
        this.n = n;
        this.e = e;
        this.d = d;
        this.salt = salt;
        this.len = (n.bitLength() + 7) / 8;
    }

    /** Of two primes, so that N has just so many bits. */
    static Rsa make(int bits, long e, int salt, Random random) {
        BigInteger exponent = BigInteger.valueOf(e);
        for (int i = 0; i < 100_000; i++) {
            BigInteger p = new BigInteger(bits / 2, 20, random);
            BigInteger q = new BigInteger(bits - bits / 2, 20, random);
            BigInteger n = p.multiply(q);
            BigInteger phi = p.subtract(BigInteger.ONE).multiply(q.subtract(BigInteger.ONE));
            if (n.bitLength() == bits && !p.equals(q) && exponent.gcd(phi).equals(BigInteger.ONE)) {
                return new Rsa(n, exponent, exponent.modInverse(phi), salt);
            }
        }
        throw new IllegalStateException("no primes");
    }

    /** Of a prime alone: then anything but 0 is coprime to it, and any number of bits is soon found. */
    static Rsa makePrime(BigInteger atLeast, long e, int salt) {
        BigInteger exponent = BigInteger.valueOf(e);
        BigInteger n = atLeast;
        for (int i = 0; i < 100_000; i++) {
            n = n.nextProbablePrime();
            BigInteger phi = n.subtract(BigInteger.ONE);
            if (exponent.gcd(phi).equals(BigInteger.ONE)) {
                return new Rsa(n, exponent, exponent.modInverse(phi), salt);
            }
        }
        throw new IllegalStateException("no prime");
    }

    Rsa withD(BigInteger other) {
        return new Rsa(n, e, other, salt);
    }

    byte[] tape() {
        return tape(n, e.longValue(), d, salt, len);
    }

    static byte[] tape(BigInteger n, long e, BigInteger d, int salt, int len) {
        return Model.join(Model.bytes(n, len), Model.bytes(e, 3), Model.bytes(d, len), Model.bytes(salt, 1));
    }

    byte[] blind(Random random) {
        return Model.bytes(new BigInteger(n.bitLength() - 1, random).setBit(1), len);
    }
}
