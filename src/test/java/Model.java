import java.io.ByteArrayOutputStream;
import java.math.BigInteger;
import java.nio.charset.StandardCharsets;
import java.security.MessageDigest;
import java.security.NoSuchAlgorithmException;
import java.util.ArrayList;
import java.util.Arrays;
import java.util.HashMap;
import java.util.List;
import java.util.Map;
import java.util.NoSuchElementException;

/** The document once more, with BigInteger and MessageDigest: what VeilMint answers is held against it. */
final class Model {
    static final int NONE = -1, REFUSED = -2, NO_KEY = -3, BAD = -4, SPENT = -5, FULL = -6, DOWN = -9;

    static final BigInteger ZERO = BigInteger.ZERO, ONE = BigInteger.ONE, THREE = BigInteger.valueOf(3);
    static final BigInteger P = ONE.shiftLeft(384).subtract(ONE.shiftLeft(128)).subtract(ONE.shiftLeft(96))
        .add(ONE.shiftLeft(32)).subtract(ONE);
    static final BigInteger B = new BigInteger(
        "b3312fa7e23ee7e4988e056be3f82d19181d9c6efe8141120314088f5013875ac656398d8a2ed19d2a85c8edd3ec2aef", 16);
    static final BigInteger Q = new BigInteger(
        "ffffffffffffffffffffffffffffffffffffffffffffffffc7634d81f4372ddf581a0db248b0a77aecec196accc52973", 16);
    static final Spot G = new Spot(new BigInteger(
        "aa87ca22be8b05378eb1c71ef320ad746e1d3b628ba79b9859f741e082542a385502f25dbf55296c3a545e3872760ab7", 16),
        new BigInteger(
        "3617de4a96262c6f5d9e98bf9292dc29f8f41dbd289a147ce9da3113b5f0b8c00a60b1ce1d7e819d7a431d7c90ea0e5f", 16));
    static final byte[] CONTEXT = join(text("OPRFV1-"), new byte[] {1}, text("-P384-SHA384"));

    /** A point of the curve; null is the one that is none. */
    record Spot(BigInteger x, BigInteger y) { }

    // ---- bytes ----

    static byte[] text(String s) {
        return s.getBytes(StandardCharsets.ISO_8859_1);
    }

    static byte[] join(byte[]... parts) {
        ByteArrayOutputStream all = new ByteArrayOutputStream();
        for (byte[] part : parts) {
            all.writeBytes(part);
        }
        return all.toByteArray();
    }

    static byte[] slice(byte[] from, int at, int many) {
        return Arrays.copyOfRange(from, at, at + many);
    }

    static BigInteger number(byte[] bytes) {
        return new BigInteger(1, bytes);
    }

    static byte[] bytes(BigInteger v, int k) {
        byte[] made = new byte[k];
        byte[] raw = v.toByteArray();
        for (int i = 0; i < k && i < raw.length; i++) {
            made[k - 1 - i] = raw[raw.length - 1 - i];
        }
        return made;
    }

    static byte[] bytes(long v, int k) {
        return bytes(BigInteger.valueOf(v), k);
    }

    static byte[] hex(String digits) {
        return bytes(new BigInteger(digits, 16), digits.length() / 2);
    }

    private static byte[] hash(String name, byte[] of) {
        try {
            return MessageDigest.getInstance(name).digest(of);
        } catch (NoSuchAlgorithmException e) {
            throw new IllegalStateException(e);
        }
    }

    static byte[] h2(byte[] of) {
        return hash("SHA-256", of);
    }

    static byte[] h3(byte[] of) {
        return hash("SHA-384", of);
    }

    // ---- TYPE 1 ----

    static BigInteger side(BigInteger x) {
        return x.pow(3).subtract(THREE.multiply(x)).add(B).mod(P);
    }

    static BigInteger root(BigInteger a) {
        return a.modPow(P.add(ONE).shiftRight(2), P);
    }

    static boolean isSquare(BigInteger a) {
        BigInteger power = a.modPow(P.subtract(ONE).shiftRight(1), P);
        return power.signum() == 0 || power.equals(ONE);
    }

    static Spot plus(Spot a, Spot b) {
        if (a == null || b == null) {
            return a == null ? b : a;
        }
        BigInteger slope;
        if (a.x.equals(b.x)) {
            if (!a.y.equals(b.y)) {
                return null;
            }
            slope = THREE.multiply(a.x.multiply(a.x).subtract(ONE)).multiply(a.y.shiftLeft(1).modInverse(P)).mod(P);
        } else {
            slope = b.y.subtract(a.y).multiply(b.x.subtract(a.x).modInverse(P)).mod(P);
        }
        BigInteger x = slope.multiply(slope).subtract(a.x).subtract(b.x).mod(P);
        return new Spot(x, slope.multiply(a.x.subtract(x)).subtract(a.y).mod(P));
    }

    private record Product(BigInteger k, Spot a) { }

    /** Tests ask for the same products over and over, and they take long. */
    private static final Map<Product, Spot> PRODUCTS = new HashMap<>();

    static Spot times(BigInteger k, Spot a) {
        return PRODUCTS.computeIfAbsent(new Product(k, a), Model::reckon);
    }

    private static Spot reckon(Product product) {
        BigInteger k = product.k;
        Spot a = product.a;
        Spot sum = null;
        for (int i = k.bitLength() - 1; i >= 0; i--) {
            sum = plus(sum, sum);
            if (k.testBit(i)) {
                sum = plus(sum, a);
            }
        }
        return sum;
    }

    static byte[] element(Spot a) {
        return join(new byte[] {(byte) (a.y.testBit(0) ? 3 : 2)}, bytes(a.x, 48));
    }

    /** null if the bytes are no ELEMENT. */
    static Spot spot(byte[] of) {
        BigInteger x = number(slice(of, 1, 48));
        if (of[0] != 2 && of[0] != 3 || x.compareTo(P) >= 0 || !isSquare(side(x))) {
            return null;
        }
        BigInteger y = root(side(x));
        return new Spot(x, y.testBit(0) == (of[0] == 3) ? y : P.subtract(y));
    }

    static byte[] expand(byte[] message, byte[] tag, int many) {
        byte[] prime = join(tag, bytes(tag.length, 1));
        byte[] zero = h3(join(new byte[128], message, bytes(many, 2), new byte[1], prime));
        byte[] latest = h3(join(zero, bytes(1, 1), prime));
        byte[] all = latest;
        for (int i = 2; all.length < many; i++) {
            latest = h3(join(bytes(number(zero).xor(number(latest)), 48), bytes(i, 1), prime));
            all = join(all, latest);
        }
        return slice(all, 0, many);
    }

    static Spot swu(BigInteger u) {
        BigInteger z = BigInteger.valueOf(-12), a = BigInteger.valueOf(-3);
        BigInteger zu = z.multiply(u).multiply(u).mod(P);
        BigInteger bottom = zu.multiply(zu).add(zu).mod(P);
        BigInteger x = bottom.signum() == 0
            ? B.multiply(z.multiply(a).modInverse(P)).mod(P)
            : B.negate().multiply(a.modInverse(P)).multiply(ONE.add(bottom.modInverse(P))).mod(P);
        if (!isSquare(side(x))) {
            x = zu.multiply(x).mod(P);
        }
        BigInteger y = root(side(x));
        return new Spot(x, y.testBit(0) == u.testBit(0) ? y : P.subtract(y).mod(P));
    }

    static Spot hashToCurve(byte[] message, byte[] tag) {
        byte[] wide = expand(message, tag, 144);
        return plus(swu(number(slice(wide, 0, 72)).mod(P)), swu(number(slice(wide, 72, 72)).mod(P)));
    }

    static Spot hashToGroup(byte[] message) {
        return hashToCurve(message, join(text("HashToGroup-"), CONTEXT));
    }

    static BigInteger hashToScalar(byte[] message) {
        return number(expand(message, join(text("HashToScalar-"), CONTEXT), 72)).mod(Q);
    }

    static byte[] long49(Spot a) {
        return long49(element(a));
    }

    private static byte[] long49(byte[] element) {
        return join(bytes(49, 2), element);
    }

    static List<BigInteger> weights(Spot a, List<Spot> c, List<Spot> d) {
        return weightsOfBytes(a, c.stream().map(Model::element).toList(), d.stream().map(Model::element).toList());
    }

    static List<BigInteger> weightsOfBytes(Spot a, List<byte[]> c, List<byte[]> d) {
        byte[] tag = join(text("Seed-"), CONTEXT);
        byte[] seed = h3(join(long49(a), bytes(tag.length, 2), tag));
        List<BigInteger> all = new ArrayList<>();
        for (int i = 0; i < c.size(); i++) {
            all.add(hashToScalar(join(bytes(48, 2), seed, bytes(i, 2), long49(c.get(i)), long49(d.get(i)),
                text("Composite"))));
        }
        return all;
    }

    static Spot sum(List<BigInteger> weights, List<Spot> spots) {
        Spot all = null;
        for (int i = 0; i < spots.size(); i++) {
            all = plus(all, times(weights.get(i), spots.get(i)));
        }
        return all;
    }

    static BigInteger challenge(Spot... five) {
        byte[] all = new byte[0];
        for (Spot one : five) {
            all = join(all, long49(one));
        }
        return hashToScalar(join(all, text("Challenge")));
    }

    /** The evaluated ELEMENTS and the PROOF. */
    static byte[] evaluate(BigInteger k, List<Spot> c, BigInteger r) {
        Spot a = times(k, G);
        List<Spot> d = new ArrayList<>();
        byte[] all = new byte[0];
        for (Spot one : c) {
            d.add(times(k, one));
            all = join(all, element(times(k, one)));
        }
        List<BigInteger> w = weights(a, c, d);
        Spot m = sum(w, c), z = sum(w, d);
        BigInteger ch = challenge(a, m, z, times(r, G), times(r, m));
        return join(all, bytes(ch, 48), bytes(r.subtract(ch.multiply(k)).mod(Q), 48));
    }

    static boolean isProved(Spot a, List<Spot> c, List<Spot> d, byte[] proof) {
        BigInteger ch = number(slice(proof, 0, 48)), s = number(slice(proof, 48, 48));
        if (ch.compareTo(Q) >= 0 || s.compareTo(Q) >= 0) {
            return false;
        }
        List<BigInteger> w = weights(a, c, d);
        Spot m = sum(w, c), z = sum(w, d);
        Spot t = plus(times(s, G), times(ch, a));
        Spot u = m == null || z == null ? null : plus(times(s, m), times(ch, z));
        return t != null && u != null && challenge(a, m, z, t, u).equals(ch);
    }

    static byte[] output(byte[] input, Spot evaluated) {
        return h3(join(bytes(input.length, 2), input, long49(evaluated), text("Finalize")));
    }

    // ---- TYPE 2 ----

    static byte[] mgf(byte[] seed, int many) {
        byte[] all = new byte[0];
        for (int i = 0; all.length < many; i++) {
            all = join(all, h3(join(seed, bytes(i, 4))));
        }
        return slice(all, 0, many);
    }

    static byte[] encode(byte[] input, byte[] salt, int bits) {
        int size = (bits + 7) / 8;
        byte[] h = h3(join(new byte[8], h3(input), salt));
        byte[] db = join(new byte[size - salt.length - 48 - 2], new byte[] {1}, salt);
        byte[] mask = mgf(h, size - 48 - 1);
        for (int i = 0; i < db.length; i++) {
            db[i] ^= mask[i];
        }
        db[0] &= 255 >> 8 * size - bits;
        return join(db, h, new byte[] {(byte) 0xbc});
    }

    static boolean verify(byte[] input, byte[] code, int saltSize, int bits) {
        int size = code.length;
        if ((code[size - 1] & 255) != 0xbc) {
            return false;
        }
        byte[] db = slice(code, 0, size - 49);
        byte[] h = slice(code, size - 49, 48);
        int spare = 8 * size - bits;
        if ((db[0] & 255) >> 8 - spare != 0 && spare > 0) {
            return false;
        }
        byte[] mask = mgf(h, size - 49);
        for (int i = 0; i < db.length; i++) {
            db[i] ^= mask[i];
        }
        db[0] &= 255 >> spare;
        int zeros = size - 48 - saltSize - 2;
        for (int i = 0; i < zeros; i++) {
            if (db[i] != 0) {
                return false;
            }
        }
        byte[] salt = slice(db, db.length - saltSize, saltSize);
        return db[zeros] == 1 && Arrays.equals(h, h3(join(new byte[8], h3(input), salt)));
    }

    // ---- the state ----

    static final class Key {
        int type, len, salt;
        boolean live = true;
        BigInteger secret, n, e;
        Spot a;
        byte[] shown, id;
    }

    static final class Asking {
        int key;
        byte[] input;
        BigInteger blind;
        boolean open = true;
    }

    byte[] tape = new byte[0], out = new byte[0], disk = new byte[4096];
    final List<Key> keys = new ArrayList<>();
    final List<Asking> askings = new ArrayList<>();
    boolean down;
    int left = NONE, writes, redeemed;

    private byte[] use() {
        byte[] was = tape;
        tape = new byte[0];
        return was;
    }

    private int set(byte[] to) {
        out = to;
        return to.length;
    }

    int feed(int a, int b, int c, int d, int e) {
        if (tape.length + 20 > 1200) {
            return NONE;
        }
        for (int one : new int[] {a, b, c, d, e}) {
            tape = join(tape, bytes(one & 0xffffffffL, 4));
        }
        return tape.length;
    }

    boolean end(int n) {
        if (n < 0 || tape.length < n) {
            return false;
        }
        tape = slice(tape, 0, n);
        return true;
    }

    int again(int from, int many) {
        if (from < 0 || many < 0 || (long) from + many > out.length || tape.length + many > 1200) {
            return NONE;
        }
        tape = join(tape, slice(out, from, many));
        return tape.length;
    }

    int out(int i) {
        return i < 0 || i >= out.length ? NONE : out[i] & 255;
    }

    int outs() {
        return out.length;
    }

    private static boolean isSecret(byte[] b) {
        return number(b).signum() > 0 && number(b).compareTo(Q) < 0;
    }

    int key(int type) {
        byte[] t = use();
        Key k = new Key();
        k.type = type;
        if (type == 1) {
            if (t.length != 48 || !isSecret(t)) {
                return REFUSED;
            }
            k.secret = number(t);
            k.len = 48;
            k.a = times(k.secret, G);
            k.shown = element(k.a);
            k.id = h2(k.shown);
        } else if (type == 2) {
            k.len = (t.length - 4) / 2;
            if (t.length % 2 != 0 || k.len < 66 || k.len > 256) {
                return REFUSED;
            }
            k.n = number(slice(t, 0, k.len));
            k.e = number(slice(t, k.len, 3));
            k.secret = number(slice(t, k.len + 3, k.len));
            k.salt = t[t.length - 1] & 255;
            if (t[0] == 0 || !k.n.testBit(0) || !k.e.testBit(0) || k.e.intValue() < 3 || k.e.intValue() > 65537
                || k.secret.signum() == 0 || k.secret.compareTo(k.n) >= 0
                || k.salt != 0 && k.salt != 48 || k.salt == 48 && k.len < 100) {
                return REFUSED;
            }
            k.shown = slice(t, 0, k.len + 3);
            k.id = h2(join(k.shown, bytes(k.salt, 1)));
        } else {
            return REFUSED;
        }
        if (keys.size() == 6) {
            return FULL;
        }
        keys.add(k);
        return keys.size() - 1;
    }

    private Key has(int key) {
        if (key < 0 || key >= keys.size()) {
            throw new NoSuchElementException();
        }
        return keys.get(key);
    }

    boolean retire(int key) {
        boolean was = has(key).live;
        has(key).live = false;
        return was;
    }

    int look(int key, int what) {
        Key k = has(key);
        return switch (what) {
            case 0 -> set(k.id);
            case 1 -> set(k.shown);
            case 2 -> k.type;
            case 3 -> k.live ? 1 : 0;
            case 4 -> k.len;
            default -> throw new NoSuchElementException();
        };
    }

    int digest() {
        return set(h2(use()));
    }

    int request(int key) {
        byte[] t = use();
        if (key < 0 || key >= keys.size() || !keys.get(key).live) {
            return NO_KEY;
        }
        Key k = keys.get(key);
        if (t.length != 64 + (k.type == 1 ? 48 : k.salt + k.len)) {
            return REFUSED;
        }
        if (askings.size() == 60) {
            return FULL;
        }
        Asking a = new Asking();
        a.key = key;
        a.input = join(bytes(k.type, 2), slice(t, 0, 64), k.id);
        byte[] blinded;
        if (k.type == 1) {
            if (!isSecret(slice(t, 64, 48))) {
                return BAD;
            }
            a.blind = number(slice(t, 64, 48));
            blinded = element(times(a.blind, hashToGroup(a.input)));
        } else {
            a.blind = number(slice(t, 64 + k.salt, k.len));
            BigInteger m = number(encode(a.input, slice(t, 64, k.salt), k.n.bitLength() - 1));
            if (a.blind.compareTo(k.n) >= 0 || !a.blind.gcd(k.n).equals(ONE) || !m.gcd(k.n).equals(ONE)) {
                return BAD;
            }
            blinded = bytes(m.multiply(a.blind.modPow(k.e, k.n)).mod(k.n), k.len);
        }
        askings.add(a);
        set(join(bytes(k.type, 2), slice(k.id, 31, 1), blinded));
        return askings.size() - 1;
    }

    private Key liveByEnd(int type, byte last) {
        for (Key k : keys) {
            if (k.live && k.type == type && k.id[31] == last) {
                return k;
            }
        }
        return null;
    }

    private int issueSpots(byte[] t, int many) {
        Key k = liveByEnd(1, t[2]);
        if (k == null) {
            return NO_KEY;
        }
        if (t.length != 3 + 49 * many + 48) {
            return REFUSED;
        }
        List<Spot> c = new ArrayList<>();
        for (int i = 0; i < many; i++) {
            c.add(spot(slice(t, 3 + 49 * i, 49)));
        }
        byte[] r = slice(t, 3 + 49 * many, 48);
        if (c.contains(null) || !isSecret(r)) {
            return BAD;
        }
        return set(evaluate(k.secret, c, number(r)));
    }

    int issue() {
        byte[] t = use();
        int type = t.length < 3 ? 0 : number(slice(t, 0, 2)).intValue();
        if (type != 1 && type != 2) {
            return REFUSED;
        }
        if (type == 1) {
            return issueSpots(t, 1);
        }
        Key k = liveByEnd(2, t[2]);
        if (k == null) {
            return NO_KEY;
        }
        if (t.length != 3 + k.len) {
            return REFUSED;
        }
        BigInteger x = number(slice(t, 3, k.len));
        BigInteger s = x.modPow(k.secret, k.n);
        if (x.compareTo(k.n) >= 0 || !s.modPow(k.e, k.n).equals(x)) {
            return BAD;
        }
        return set(bytes(s, k.len));
    }

    int issueMany(int many) {
        byte[] t = use();
        if (t.length < 3 || number(slice(t, 0, 2)).intValue() != 1 || many < 1 || many > 8) {
            return REFUSED;
        }
        return issueSpots(t, many);
    }

    private int finalizeSpots(byte[] t, int first, int many) {
        if (t.length != 49 * many + 96) {
            return REFUSED;
        }
        Key k = keys.get(askings.get(first).key);
        List<Spot> c = new ArrayList<>(), d = new ArrayList<>();
        for (int i = 0; i < many; i++) {
            Asking a = askings.get(first + i);
            c.add(times(a.blind, hashToGroup(a.input)));
            d.add(spot(slice(t, 49 * i, 49)));
        }
        if (d.contains(null) || !isProved(k.a, c, d, slice(t, 49 * many, 96))) {
            return BAD;
        }
        byte[] all = new byte[0];
        for (int i = 0; i < many; i++) {
            Asking a = askings.get(first + i);
            a.open = false;
            all = join(all, a.input, output(a.input, times(a.blind.modInverse(Q), d.get(i))));
        }
        return set(all);
    }

    int finalize(int asking) {
        byte[] t = use();
        if (asking < 0 || asking >= askings.size() || !askings.get(asking).open) {
            throw new NoSuchElementException();
        }
        Asking a = askings.get(asking);
        Key k = keys.get(a.key);
        if (k.type == 1) {
            return finalizeSpots(t, asking, 1);
        }
        if (t.length != k.len) {
            return REFUSED;
        }
        BigInteger z = number(t);
        BigInteger s = z.multiply(a.blind.modInverse(k.n)).mod(k.n);
        if (z.compareTo(k.n) >= 0 || !isSignature(k, a.input, s)) {
            return BAD;
        }
        a.open = false;
        return set(join(a.input, bytes(s, k.len)));
    }

    private static boolean isSignature(Key k, byte[] input, BigInteger s) {
        int bits = k.n.bitLength() - 1;
        BigInteger m = s.modPow(k.e, k.n);
        int size = (bits + 7) / 8;
        return s.compareTo(k.n) < 0 && m.bitLength() <= 8 * size && verify(input, bytes(m, size), k.salt, bits);
    }

    int finalizeMany(int asking, int many) {
        byte[] t = use();
        if (many < 1 || many > 8 || asking < 0 || (long) asking + many > askings.size()) {
            throw new NoSuchElementException();
        }
        boolean oneKey = true;
        for (int i = 0; i < many; i++) {
            if (!askings.get(asking + i).open) {
                throw new NoSuchElementException();
            }
            oneKey = oneKey && askings.get(asking + i).key == askings.get(asking).key;
        }
        if (!oneKey || keys.get(askings.get(asking).key).type != 1) {
            return REFUSED;
        }
        return finalizeSpots(t, asking, many);
    }

    private boolean taken(int slot) {
        int at = 512 * (slot / 14) + 36 * (slot % 14);
        return number(slice(disk, at, 4)).signum() != 0;
    }

    int redeem() {
        byte[] t = use();
        if (down) {
            return DOWN;
        }
        if (t.length < 98) {
            return REFUSED;
        }
        Key k = null;
        for (Key one : keys) {
            if (k == null && one.live && one.type == number(slice(t, 0, 2)).intValue()
                && Arrays.equals(one.id, slice(t, 66, 32))) {
                k = one;
            }
        }
        if (k == null) {
            return NO_KEY;
        }
        if (t.length != 98 + k.len) {
            return REFUSED;
        }
        byte[] input = slice(t, 0, 98), told = slice(t, 98, k.len);
        boolean right = k.type == 1
            ? Arrays.equals(told, output(input, times(k.secret, hashToGroup(input))))
            : isSignature(k, input, number(told));
        if (!right) {
            return BAD;
        }
        return spend(slice(t, 2, 32));
    }

    private int spend(byte[] nonce) {
        int start = number(slice(nonce, 0, 4)).mod(BigInteger.valueOf(112)).intValue();
        for (int i = 0; i < 112; i++) {
            int slot = (start + i) % 112;
            int at = 512 * (slot / 14) + 36 * (slot % 14);
            if (taken(slot)) {
                if (Arrays.equals(slice(disk, at + 4, 32), nonce)) {
                    return SPENT;
                }
                continue;
            }
            if (left == 0) {
                down = true;
                return DOWN;
            }
            left = left > 0 ? left - 1 : left;
            System.arraycopy(join(bytes(1, 4), nonce), 0, disk, at, 36);
            writes++;
            redeemed++;
            return 0;
        }
        return FULL;
    }

    boolean cut(int w) {
        if (w < 0 || w > 1000 || down) {
            return false;
        }
        left = w;
        return true;
    }

    int power() {
        down = false;
        left = NONE;
        return count(4);
    }

    int disk(int i) {
        return i < 0 || i >= 4096 ? NONE : disk[i] & 255;
    }

    int count(int what) {
        int n = 0;
        switch (what) {
            case 0:
                return keys.size();
            case 1:
                for (Key k : keys) {
                    n += k.live ? 1 : 0;
                }
                return n;
            case 2:
                return askings.size();
            case 3:
                for (Asking a : askings) {
                    n += a.open ? 1 : 0;
                }
                return n;
            case 4:
                for (int i = 0; i < 112; i++) {
                    n += taken(i) ? 1 : 0;
                }
                return n;
            case 5:
                return writes;
            case 6:
                return down ? 1 : 0;
            case 7:
                return down ? 0 : left;
            case 8:
                return tape.length;
            case 9:
                return redeemed;
            default:
                return NONE;
        }
    }
}
