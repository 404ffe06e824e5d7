import java.math.BigInteger;
import java.util.ArrayList;
import java.util.List;
import java.util.Random;

/** The parts of a KEY of TYPE 2. */
final class Rsa {
    final BigInteger n, e, d;
    final int len, salt;

    Rsa(BigInteger n, BigInteger e, BigInteger d, int salt) {
        this.n = n;
        this.e = e;
        this.d = d;
        this.salt = salt;
        this.len = (n.bitLength() + 7) / 8;
    }

    /** Of two primes, so that N has just so many bits. */
    static Rsa make(int bits, long e, int salt, Random random) {
        BigInteger exponent = BigInteger.valueOf(e);
        for (int i = 0; i < 100_000; i++) {
            BigInteger p = new BigInteger(bits / 2, 20, random);
            BigInteger q = new BigInteger(bits - bits / 2, 20, random);
            BigInteger n = p.multiply(q);
            BigInteger phi = p.subtract(BigInteger.ONE).multiply(q.subtract(BigInteger.ONE));
            if (n.bitLength() == bits && !p.equals(q) && exponent.gcd(phi).equals(BigInteger.ONE)) {
                return new Rsa(n, exponent, exponent.modInverse(phi), salt);
            }
        }
        throw new IllegalStateException("no primes");
    }

    /** Of a prime alone: then anything but 0 is coprime to it, and any number of bits is soon found. */
    static Rsa makePrime(BigInteger atLeast, long e, int salt) {
        BigInteger exponent = BigInteger.valueOf(e);
        BigInteger n = atLeast;
        for (int i = 0; i < 100_000; i++) {
            n = n.nextProbablePrime();
            BigInteger phi = n.subtract(BigInteger.ONE);
            if (exponent.gcd(phi).equals(BigInteger.ONE)) {
                return new Rsa(n, exponent, exponent.modInverse(phi), salt);
            }
        }
        throw new IllegalStateException("no prime");
    }

    Rsa withD(BigInteger other) {
        return new Rsa(n, e, other, salt);
    }

    byte[] tape() {
        return tape(n, e.longValue(), d, salt, len);
    }

    static byte[] tape(BigInteger n, long e, BigInteger d, int salt, int len) {
        return Model.join(Model.bytes(n, len), Model.bytes(e, 3), Model.bytes(d, len), Model.bytes(salt, 1));
    }

    byte[] blind(Random random) {
        return Model.bytes(new BigInteger(n.bitLength() - 1, random).setBit(1), len);
    }

    byte[] signed(BigInteger code) {
        return Model.bytes(code.modPow(d, n), len);
    }

    /** Codes below N of this INPUT that EMSA-PSS-VERIFY does not take. */
    List<BigInteger> wrongCodes(byte[] input) {
        int bits = n.bitLength() - 1;
        byte[] code = Model.encode(input, new byte[salt], bits);
        int mark = code.length - 49;
        int one = mark - salt - 1;
        List<BigInteger> all = new ArrayList<>();
        // A bit of the zeros (the first and the last of them), of the 1, of the mark (likewise), of the trailer.
        for (int at : new int[] {0, one - 1, one, mark, mark + 47, mark + 48}) {
            all.add(Model.number(Pair.bent(code, at)));
        }
        // A bit too many.
        all.add(Model.number(code).setBit(bits));
        for (int size : salt == 0 ? new int[] {1} : new int[] {0, 47, 49}) {
            if (code.length >= size + 50) {
                all.add(Model.number(Model.encode(input, new byte[size], bits)));
            }
        }
        all.removeIf(each -> each.compareTo(n) >= 0);
        return all;
    }
}
