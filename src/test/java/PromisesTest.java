import java.math.BigInteger;
import java.util.List;
import java.util.Random;

/** Promise by promise: ordinary inputs, the edges that the document names, wrong inputs, and the order of refusals. */
final class PromisesTest {
    private static final int MIN = Integer.MIN_VALUE;
    private static final int MAX = Integer.MAX_VALUE;
    private static final int THROWN = Pair.THROWN;
    private static final BigInteger Q = Model.Q;
    private static final BigInteger ONE = BigInteger.ONE;
    private static final Random MAKE = new Random(3);
    private static final Rsa SMALL = Rsa.make(528, 3, 0, MAKE);
    private static final Rsa SALTED = Rsa.make(800, 65537, 48, MAKE);
    private static final byte[] NONCE = Pair.nonce(0x80000070L, 5);
    private static final byte[] DIGEST = Pair.DIGEST;

    public static void main(String[] args) {
        newObject();
        feed();
        end();
        again();
        outAndOuts();
        secretKeys();
        rsaKeys();
        fullKeys();
        retireAndLook();
        digest();
        requestOfType1();
        requestOfType2();
        fullAskings();
        issueOfType1();
        issueOfType2();
        issueMany();
        finalizeOfType1();
        finalizeOfType2();
        finalizeMany();
        redeemOfType1();
        redeemOfType2();
        lengthsOfMasks();
        slots();
        fullDisk();
        powerGoes();
        counts();
        Pair.finish("PromisesTest");
    }

    // ---- 1: A new object ----

    private static void newObject() {
        Pair pair = new Pair("1");
        int[] due = {0, 0, 0, 0, 0, 0, 0, -1, 0, 0};
        for (int i = 0; i < due.length; i++) {
            pair.due(pair.count(i), due[i]);
        }
        pair.due(pair.outs(), 0);
        pair.due(pair.out(0), -1);
        for (int i = 0; i < 4096; i++) {
            Pair.check("an empty disk", pair.x.disk(i) == 0);
        }
    }

    // ---- 2 to 6: the TAPE and OUT ----

    private static void feed() {
        Pair pair = new Pair("2");
        pair.due(pair.feed(0x01020304, -2, MIN, MAX, 0x80ff7f00), 20);
        pair.digest();
        for (int i = 1; i <= 60; i++) {
            pair.due(pair.feed(i, -i, i, -i, i), 20 * i);
        }
        pair.due(pair.feed(1, 1, 1, 1, 1), -1);
        pair.due(pair.count(8), 1200);
        pair.end(1181);
        pair.due(pair.feed(1, 1, 1, 1, 1), -1);
        pair.end(1180);
        pair.due(pair.feed(1, 2, 3, 4, 5), 1200);
        pair.digest();
    }

    private static void end() {
        Pair pair = new Pair("3");
        Pair.check("0 of none", pair.end(0));
        Pair.check("1 of none", !pair.end(1));
        pair.feed(1, 2, 3, 4, 5);
        for (int n : new int[] {-1, MIN, 21, MAX}) {
            Pair.check("end of " + n, !pair.end(n));
            pair.due(pair.count(8), 20);
        }
        Pair.check("all", pair.end(20));
        Pair.check("some", pair.end(7));
        pair.due(pair.count(8), 7);
        pair.feed(6, 7, 8, 9, 10);
        pair.digest();
        pair.feed(1, 2, 3, 4, 5);
        Pair.check("none", pair.end(0));
        pair.digest();
    }

    private static void again() {
        Pair pair = new Pair("4");
        pair.due(pair.again(0, 0), 0);
        pair.due(pair.again(0, 1), -1);
        pair.digest();
        int[][] wrong = {{-1, 1}, {-1, 0}, {0, -1}, {0, 33}, {32, 1}, {33, 0}, {33, -1}, {MAX, 1}, {1, MAX},
            {MAX, MAX}, {MIN, MIN}, {MIN, 0}, {0, MIN}, {1, 32}};
        for (int[] one : wrong) {
            pair.due(pair.again(one[0], one[1]), -1);
            pair.due(pair.count(8), 0);
        }
        pair.due(pair.again(32, 0), 0);
        pair.due(pair.again(0, 32), 32);
        pair.due(pair.again(31, 1), 33);
        pair.due(pair.again(5, 20), 53);
        pair.due(pair.outs(), 32);
        pair.digest();
        for (int i = 1; i <= 37; i++) {
            pair.due(pair.again(0, 32), 32 * i);
        }
        pair.due(pair.again(0, 17), -1);
        pair.due(pair.count(8), 1184);
        pair.due(pair.again(3, 16), 1200);
        pair.due(pair.again(3, 1), -1);
        pair.due(pair.again(3, 0), 1200);
        pair.digest();
    }

    private static void outAndOuts() {
        Pair pair = new Pair("5 and 6");
        pair.digest();
        pair.due(pair.outs(), 32);
        pair.due(pair.out(0), 0xe3);
        pair.due(pair.out(31), 0x55);
        for (int i : new int[] {-1, 32, MIN, MAX}) {
            pair.due(pair.out(i), -1);
        }
        pair.put(Pair.scalar(1)).key(1);
        pair.due(pair.outs(), 32);
        pair.look(0, 2);
        pair.look(0, 3);
        pair.look(0, 4);
        pair.due(pair.outs(), 32);
        pair.due(pair.look(0, 1), 49);
        pair.due(pair.outs(), 49);
    }

    // ---- 7: key ----

    private static void secretKeys() {
        BigInteger[] secrets = {ONE, Q.subtract(ONE), BigInteger.TWO, Q.shiftRight(1),
            new BigInteger(383, MAKE), ONE.shiftLeft(380), ONE.shiftLeft(3)};
        for (BigInteger secret : secrets) {
            Pair pair = new Pair("7, a secret");
            pair.due(pair.secretKey(secret), 0);
            pair.due(pair.count(8), 0);
            pair.look(0, 1);
            pair.look(0, 0);
        }
        Pair pair = new Pair("7, wrong secrets");
        BigInteger[] wrong = {BigInteger.ZERO, Q, Q.add(ONE), ONE.shiftLeft(384).subtract(ONE)};
        for (BigInteger secret : wrong) {
            pair.due(pair.secretKey(secret), VeilMint.REFUSED);
            pair.due(pair.count(8), 0);
        }
        for (int size : new int[] {0, 1, 47, 49, 96}) {
            byte[] bytes = new byte[size];
            java.util.Arrays.fill(bytes, (byte) 1);
            pair.due(pair.put(bytes).key(1), VeilMint.REFUSED);
        }
        for (int type : new int[] {0, 3, -1, 256, 257, MIN, MAX}) {
            pair.due(pair.put(Pair.scalar(1)).key(type), VeilMint.REFUSED);
            pair.due(pair.count(8), 0);
        }
        pair.due(pair.put(Pair.scalar(1)).key(2), VeilMint.REFUSED);
        pair.due(pair.count(0), 0);
    }

    private static byte[] odd(int len, int first) {
        byte[] made = Pair.random(MAKE, len);
        made[0] = (byte) first;
        made[len - 1] |= 1;
        return made;
    }

    private static void rsaKeys() {
        for (int len : new int[] {65, 66, 67, 70, 99, 100, 105, 255, 256, 257}) {
            for (int salt : new int[] {0, 48, 47, 1, 176, 255}) {
                Pair pair = new Pair("7, LEN " + len + " and S " + salt);
                boolean right = len >= 66 && len <= 256 && (salt == 0 || salt == 48 && len >= 100);
                BigInteger n = Model.number(odd(len, 1 + MAKE.nextInt(255)));
                pair.due(pair.put(Rsa.tape(n, 3, ONE, salt, len)).key(2), right ? 0 : VeilMint.REFUSED);
                if (right) {
                    pair.due(pair.look(0, 4), len);
                    pair.due(pair.look(0, 2), 2);
                    pair.due(pair.look(0, 1), len + 3);
                    pair.due(pair.look(0, 0), 32);
                }
            }
        }
        Pair pair = new Pair("7, wrong numbers");
        BigInteger n = SMALL.n, d = SMALL.d;
        for (long e : new long[] {0, 1, 2, 4, 65536, 65538, 65539, 0x010101L, 0xffffffL, 0x800001L}) {
            pair.due(pair.put(Rsa.tape(n, e, d, 0, 66)).key(2), VeilMint.REFUSED);
        }
        for (BigInteger wrong : new BigInteger[] {BigInteger.ZERO, n, n.add(ONE), ONE.shiftLeft(528).subtract(ONE)}) {
            pair.due(pair.put(Rsa.tape(n, 3, wrong, 0, 66)).key(2), VeilMint.REFUSED);
        }
        pair.due(pair.put(Rsa.tape(SALTED.n, 3, BigInteger.ZERO, 48, 100)).key(2), VeilMint.REFUSED);
        pair.due(pair.put(Rsa.tape(n.subtract(ONE), 3, d, 0, 66)).key(2), VeilMint.REFUSED);
        pair.due(pair.put(Rsa.tape(n.shiftRight(8).setBit(0), 3, ONE, 0, 66)).key(2), VeilMint.REFUSED);
        pair.due(pair.put(SMALL.tape(), new byte[1]).key(2), VeilMint.REFUSED);
        pair.due(pair.put(Model.slice(SMALL.tape(), 0, 135)).key(2), VeilMint.REFUSED);
        pair.due(pair.put(SMALL.tape()).key(1), VeilMint.REFUSED);
        for (int size = 0; size < 6; size++) {
            pair.due(pair.put(new byte[size]).key(2), VeilMint.REFUSED);
        }
        pair.due(pair.count(0), 0);
        pair.due(pair.put(Rsa.tape(n, 3, ONE, 0, 66)).key(2), 0);
        pair.due(pair.put(Rsa.tape(n, 65537, n.subtract(ONE), 0, 66)).key(2), 1);
        pair.due(pair.put(Rsa.tape(n, 65535, n.subtract(ONE), 0, 66)).key(2), 2);
    }

    private static void fullKeys() {
        Pair pair = new Pair("7, six");
        for (int i = 0; i < 6; i++) {
            pair.due(i % 2 == 0 ? pair.secretKey(BigInteger.valueOf(i + 1)) : pair.rsaKey(SMALL), i);
        }
        pair.due(pair.secretKey(ONE), VeilMint.FULL);
        pair.due(pair.rsaKey(SMALL), VeilMint.FULL);
        pair.due(pair.secretKey(Q), VeilMint.REFUSED);
        pair.due(pair.put(Pair.scalar(1)).key(3), VeilMint.REFUSED);
        pair.due(pair.put(Rsa.tape(SMALL.n, 4, ONE, 0, 66)).key(2), VeilMint.REFUSED);
        pair.retire(0);
        pair.due(pair.secretKey(ONE), VeilMint.FULL);
        pair.due(pair.count(0), 6);
        pair.due(pair.count(1), 5);
        pair.due(pair.look(5, 2), 2);
        pair.due(pair.look(6, 2), THROWN);
        pair.due(pair.retire(6), THROWN);
        pair.due(pair.put(NONCE, DIGEST, Pair.scalar(1)).request(6), VeilMint.NO_KEY);
    }

    // ---- 8 to 10 ----

    private static void retireAndLook() {
        Pair pair = new Pair("8 and 9");
        pair.due(pair.retire(0), THROWN);
        pair.due(pair.look(0, 2), THROWN);
        pair.secretKey(BigInteger.TEN);
        pair.rsaKey(SALTED);
        int[][] due = {{32, 49, 1, 1, 48}, {32, SALTED.len + 3, 2, 1, SALTED.len}};
        for (int key = 0; key < 2; key++) {
            for (int what = 0; what < 5; what++) {
                pair.due(pair.look(key, what), due[key][what]);
            }
            for (int what : new int[] {-1, 5, MIN, MAX}) {
                pair.due(pair.look(key, what), THROWN);
            }
        }
        for (int key : new int[] {-1, 2, 6, MIN, MAX}) {
            pair.due(pair.look(key, 0), THROWN);
            pair.due(pair.retire(key), THROWN);
        }
        pair.feed(1, 2, 3, 4, 5);
        pair.due(pair.retire(1), 1);
        pair.due(pair.look(1, 3), 0);
        pair.due(pair.look(0, 3), 1);
        pair.due(pair.retire(1), 0);
        pair.due(pair.look(1, 0), 32);
        pair.due(pair.look(1, 1), SALTED.len + 3);
        pair.due(pair.count(1), 1);
        pair.due(pair.count(8), 20);
    }

    private static void digest() {
        Pair pair = new Pair("10");
        for (int size = 0; size <= 200; size++) {
            pair.due(pair.put(Pair.random(MAKE, size)).digest(), 32);
            pair.due(pair.count(8), 0);
        }
        for (int size : new int[] {503, 504, 505, 511, 512, 1199, 1200}) {
            pair.due(pair.put(Pair.random(MAKE, size)).digest(), 32);
        }
    }

    // ---- 11: request ----

    private static void requestOfType1() {
        Pair pair = new Pair("11, TYPE 1");
        pair.due(pair.put(NONCE, DIGEST, Pair.scalar(1)).request(0), VeilMint.NO_KEY);
        pair.secretKey(BigInteger.valueOf(77));
        pair.secretKey(BigInteger.valueOf(78));
        int asking = 0;
        for (BigInteger blind : new BigInteger[] {ONE, BigInteger.TWO, Q.subtract(ONE), new BigInteger(383, MAKE)}) {
            pair.due(pair.put(NONCE, DIGEST, Pair.scalar(blind)).request(0), asking);
            pair.due(pair.outs(), 52);
            pair.due(pair.count(8), 0);
            asking++;
        }
        for (BigInteger blind : new BigInteger[] {BigInteger.ZERO, Q, Q.add(ONE), ONE.shiftLeft(384).subtract(ONE)}) {
            pair.due(pair.put(NONCE, DIGEST, Pair.scalar(blind)).request(0), VeilMint.BAD);
            pair.due(pair.count(8), 0);
        }
        for (int size : new int[] {0, 63, 64, 111, 113}) {
            pair.due(pair.put(new byte[size]).request(0), VeilMint.REFUSED);
        }
        for (int key : new int[] {-1, 2, MIN, MAX}) {
            pair.due(pair.put(NONCE, DIGEST, Pair.scalar(1)).request(key), VeilMint.NO_KEY);
            pair.due(pair.put(new byte[5]).request(key), VeilMint.NO_KEY);
        }
        pair.retire(1);
        pair.due(pair.put(NONCE, DIGEST, Pair.scalar(1)).request(1), VeilMint.NO_KEY);
        pair.due(pair.put(new byte[5]).request(1), VeilMint.NO_KEY);
        pair.due(pair.count(2), asking);
        for (int i = 0; i < 30; i++) {
            pair.due(pair.put(Pair.random(MAKE, 64), Pair.scalar(1)).request(0), asking + i);
        }
    }

    private static void requestOfType2() {
        Pair pair = new Pair("11, TYPE 2");
        pair.rsaKey(SALTED);
        byte[] salt = Pair.random(MAKE, 48);
        BigInteger n = SALTED.n;
        int asking = 0;
        for (BigInteger blind : new BigInteger[] {ONE, BigInteger.TWO, n.subtract(ONE), n.shiftRight(1)}) {
            pair.due(pair.put(NONCE, DIGEST, salt, Model.bytes(blind, SALTED.len)).request(0), asking);
            pair.due(pair.outs(), 3 + SALTED.len);
            asking++;
        }
        for (BigInteger blind : new BigInteger[] {BigInteger.ZERO, n, n.add(ONE), ONE.shiftLeft(800).subtract(ONE)}) {
            pair.due(pair.put(NONCE, DIGEST, salt, Model.bytes(blind, SALTED.len)).request(0), VeilMint.BAD);
        }
        for (int size : new int[] {0, 64, 64 + 48, 64 + SALTED.len, 64 + 48 + SALTED.len - 1, 65 + 48 + SALTED.len}) {
            pair.due(pair.put(new byte[size]).request(0), VeilMint.REFUSED);
        }
        pair.retire(0);
        pair.due(pair.put(NONCE, DIGEST, salt, Model.bytes(ONE, SALTED.len)).request(0), VeilMint.NO_KEY);

        Pair thirds = new Pair("11, a modulus that 3 divides");
        Rsa prime = Rsa.makePrime(ONE.shiftLeft(526).add(new BigInteger(500, MAKE)), 65537, 0);
        thirds.put(Rsa.tape(prime.n.multiply(BigInteger.valueOf(3)), 65537, ONE, 0, 66)).key(2);
        int bad = 0;
        for (int i = 0; i < 30; i++) {
            int got = thirds.put(Pair.nonce(i, 1), DIGEST, Model.bytes(ONE, 66)).request(0);
            bad += got == VeilMint.BAD ? 1 : 0;
        }
        Pair.check("some that 3 divides, some not: " + bad, bad > 3 && bad < 25);
        thirds.due(thirds.put(Pair.nonce(0, 1), DIGEST, Model.bytes(BigInteger.valueOf(3), 66)).request(0),
            VeilMint.BAD);
        thirds.due(thirds.put(Pair.nonce(0, 1), DIGEST, Model.bytes(prime.n, 66)).request(0), VeilMint.BAD);
        thirds.due(thirds.put(Pair.nonce(0, 1), DIGEST, Model.bytes(prime.n.shiftLeft(1), 66)).request(0),
            VeilMint.BAD);
    }

    private static void fullAskings() {
        Pair pair = new Pair("11, sixty");
        pair.rsaKey(SMALL);
        pair.secretKey(ONE);
        int made = 0;
        for (int i = 0; i < 60; i++) {
            made += pair.put(Pair.nonce(i, i), DIGEST, SMALL.blind(MAKE)).request(0) == i ? 1 : 0;
        }
        Pair.check("sixty", made == 60);
        pair.due(pair.put(NONCE, DIGEST, SMALL.blind(MAKE)).request(0), VeilMint.FULL);
        pair.due(pair.put(NONCE, DIGEST, Pair.scalar(1)).request(1), VeilMint.FULL);
        pair.due(pair.put(NONCE, DIGEST, Pair.scalar(0)).request(1), VeilMint.FULL);
        pair.due(pair.put(NONCE, DIGEST, Model.bytes(SMALL.n, 66)).request(0), VeilMint.FULL);
        pair.due(pair.put(NONCE, DIGEST).request(0), VeilMint.REFUSED);
        pair.due(pair.put(NONCE, DIGEST).request(2), VeilMint.NO_KEY);
        pair.due(pair.count(2), 60);
        pair.due(pair.count(8), 0);
        pair.due(pair.put(new byte[66]).finalize(60), THROWN);
        pair.due(pair.put(new byte[66]).finalize(59), VeilMint.BAD);
        pair.due(pair.put(new byte[66]).finalizeMany(60, 1), THROWN);
        pair.due(pair.put(new byte[66]).finalizeMany(53, 8), THROWN);
        pair.due(pair.put(new byte[66]).finalizeMany(52, 8), VeilMint.REFUSED);
    }

    // ---- 12 and 13: issue, issueMany ----

    private static void issueOfType1() {
        Pair pair = new Pair("12, TYPE 1");
        pair.due(pair.issue(), VeilMint.REFUSED);
        pair.due(pair.put(new byte[] {0, 1, 7}).issue(), VeilMint.NO_KEY);
        pair.secretKey(new BigInteger(383, MAKE));
        byte[] head = pair.head(0);
        byte[] r = Pair.scalar(new BigInteger(383, MAKE));
        pair.due(pair.put(head, Elements.of(5), r).issue(), 145);
        pair.due(pair.count(8), 0);
        pair.due(pair.put(head, Pair.bent(Elements.of(5), 0), r).issue(), 145);
        pair.due(pair.put(head, Elements.of(1), Pair.scalar(1)).issue(), 145);
        pair.due(pair.put(head, pair.m.keys.get(0).shown, Pair.scalar(Q.subtract(ONE))).issue(), 145);
        for (byte[] wrong : Elements.wrong()) {
            pair.due(pair.put(head, wrong, r).issue(), VeilMint.BAD);
        }
        for (BigInteger secret : new BigInteger[] {BigInteger.ZERO, Q, ONE.shiftLeft(384).subtract(ONE)}) {
            pair.due(pair.put(head, Elements.of(5), Pair.scalar(secret)).issue(), VeilMint.BAD);
        }
        pair.due(pair.put(head, Elements.of(5)).issue(), VeilMint.REFUSED);
        pair.due(pair.put(head, Elements.of(5), r, new byte[1]).issue(), VeilMint.REFUSED);
        pair.due(pair.put(head).issue(), VeilMint.REFUSED);
        for (int size = 0; size < 3; size++) {
            pair.due(pair.put(Model.slice(head, 0, size)).issue(), VeilMint.REFUSED);
        }
        byte[] other = Pair.bent(head, 2);
        pair.due(pair.put(other, Elements.of(5), r).issue(), VeilMint.NO_KEY);
        pair.due(pair.put(other).issue(), VeilMint.NO_KEY);
        for (byte[] type : new byte[][] {{0, 0}, {0, 3}, {1, 1}, {1, 2}, {-1, 1}, {0, -127}}) {
            pair.due(pair.put(type, new byte[] {head[2]}, Elements.of(5), r).issue(), VeilMint.REFUSED);
        }
        pair.due(pair.put(new byte[] {0, 2, head[2]}, Elements.of(5), r).issue(), VeilMint.NO_KEY);
        pair.retire(0);
        pair.due(pair.put(head, Elements.of(5), r).issue(), VeilMint.NO_KEY);
        pair.due(pair.put(head).issue(), VeilMint.NO_KEY);
        firstOfSeveral();
    }

    /** Two KEYS whose IDS end alike: the first LIVE one of the TYPE is taken. */
    private static void firstOfSeveral() {
        Pair pair = new Pair("12, several");
        int first = 1;
        byte[] last = new byte[256];
        int second = 0;
        for (int k = 1; second == 0; k++) {
            int end = Model.h2(Elements.of(k))[31] & 255;
            if (last[end] != 0) {
                first = last[end];
                second = k;
            }
            last[end] = (byte) k;
        }
        pair.rsaKey(SMALL);
        pair.secretKey(BigInteger.valueOf(first));
        pair.secretKey(BigInteger.valueOf(second));
        byte[] head = pair.head(2);
        Pair.check("they end alike", head[2] == pair.head(1)[2]);
        pair.due(pair.put(head, Elements.of(5), Pair.scalar(9)).issue(), 145);
        byte[] byFirst = pair.left();
        pair.retire(1);
        pair.due(pair.put(head, Elements.of(5), Pair.scalar(9)).issue(), 145);
        Pair.check("another KEY", !java.util.Arrays.equals(byFirst, pair.left()));
    }

    private static void issueOfType2() {
        Pair pair = new Pair("12, TYPE 2");
        pair.rsaKey(SALTED);
        pair.put(Rsa.tape(SMALL.n, 3, SMALL.d.subtract(ONE), 0, 66)).key(2);
        byte[] head = pair.head(0);
        BigInteger n = SALTED.n;
        for (BigInteger x : new BigInteger[] {BigInteger.ZERO, ONE, n.subtract(ONE), new BigInteger(790, MAKE)}) {
            pair.due(pair.put(head, Model.bytes(x, SALTED.len)).issue(), SALTED.len);
            pair.due(pair.count(8), 0);
        }
        for (BigInteger x : new BigInteger[] {n, n.add(ONE), ONE.shiftLeft(800).subtract(ONE)}) {
            pair.due(pair.put(head, Model.bytes(x, SALTED.len)).issue(), VeilMint.BAD);
        }
        pair.due(pair.put(head).issue(), VeilMint.REFUSED);
        pair.due(pair.put(head, new byte[SALTED.len - 1]).issue(), VeilMint.REFUSED);
        pair.due(pair.put(head, new byte[SALTED.len + 1]).issue(), VeilMint.REFUSED);
        pair.due(pair.put(head, new byte[SALTED.len]).issueMany(1), VeilMint.REFUSED);
        byte[] faulty = pair.head(1);
        pair.due(pair.put(faulty, Model.bytes(BigInteger.TWO, 66)).issue(), VeilMint.BAD);
        pair.due(pair.put(faulty, Model.bytes(ONE, 66)).issue(), 66);
        pair.due(pair.put(faulty, Model.bytes(BigInteger.ZERO, 66)).issue(), 66);
        pair.retire(0);
        pair.due(pair.put(head, new byte[SALTED.len]).issue(), VeilMint.NO_KEY);
        squareModulus();
        // Moduli of ones alone, where sums of products are the largest that there are.
        for (int len : new int[] {66, 70, 129, 255, 256}) {
            Pair ones = new Pair("12, LEN " + len + " of ones");
            BigInteger all = ONE.shiftLeft(8 * len).subtract(ONE);
            ones.put(Rsa.tape(all, 3, all.subtract(BigInteger.TWO), 0, len)).key(2);
            BigInteger[] numbers = {all.subtract(ONE), all.subtract(BigInteger.TWO), all.shiftRight(1), ONE,
                new BigInteger(8 * len - 1, MAKE)};
            for (BigInteger x : numbers) {
                ones.put(ones.head(0), Model.bytes(x, len)).issue();
            }
            ones.due(ones.put(ones.head(0), Model.bytes(numbers[0], len)).issue(), len);
        }
        // A modulus of as many bits as its limbs could just hold, and the largest one.
        for (int bits : new int[] {560, 553, 2048, 2041, 2016, 784}) {
            Pair wide = new Pair("12, " + bits + " bits");
            Rsa rsa = Rsa.makePrime(ONE.shiftLeft(bits).subtract(ONE.shiftLeft(bits - 9)), 65537, 0);
            wide.rsaKey(rsa);
            for (BigInteger x : new BigInteger[] {rsa.n.subtract(ONE), rsa.n.subtract(BigInteger.TWO),
                new BigInteger(bits - 1, MAKE)}) {
                wide.due(wide.put(wide.head(0), Model.bytes(x, rsa.len)).issue(), rsa.len);
            }
        }
    }

    /** There are numbers other than 0 then whose powers are 0. */
    private static void squareModulus() {
        BigInteger prime = ONE.shiftLeft(263).add(ONE.shiftLeft(262)).nextProbablePrime();
        Pair pair = new Pair("12, a square");
        BigInteger n = prime.multiply(prime);
        pair.put(Rsa.tape(n, 3, BigInteger.TWO, 0, 66)).key(2);
        for (BigInteger x : new BigInteger[] {prime, n.subtract(prime), prime.shiftLeft(1)}) {
            pair.due(pair.put(pair.head(0), Model.bytes(x, 66)).issue(), VeilMint.BAD);
            pair.due(pair.put(NONCE, DIGEST, Model.bytes(x, 66)).request(0), VeilMint.BAD);
        }
        pair.due(pair.put(pair.head(0), new byte[66]).issue(), 66);
    }

    private static void issueMany() {
        Pair pair = new Pair("13");
        pair.due(pair.issueMany(1), VeilMint.REFUSED);
        pair.secretKey(new BigInteger(383, MAKE));
        byte[] head = pair.head(0);
        byte[] r = Pair.scalar(new BigInteger(383, MAKE));
        byte[] eight = new byte[0];
        for (int many = 1; many <= 8; many++) {
            eight = Model.join(eight, Elements.of(many % 3 == 0 ? 1 : 100 + many));
            pair.due(pair.put(head, eight, r).issueMany(many), 49 * many + 96);
            pair.due(pair.count(8), 0);
        }
        pair.due(pair.put(head, Elements.of(2), r).issue(), 145);
        byte[] nine = Model.join(eight, Elements.of(9));
        for (int many : new int[] {0, 9, -1, MIN, MAX}) {
            pair.due(pair.put(head, nine, r).issueMany(many), VeilMint.REFUSED);
            pair.due(pair.put(Pair.bent(head, 2), nine, r).issueMany(many), VeilMint.REFUSED);
        }
        pair.due(pair.put(head, eight, r).issueMany(7), VeilMint.REFUSED);
        pair.due(pair.put(head, eight, r, new byte[1]).issueMany(8), VeilMint.REFUSED);
        pair.due(pair.put(Pair.bent(head, 2), eight, r).issueMany(8), VeilMint.NO_KEY);
        pair.due(pair.put(Pair.bent(head, 2), eight).issueMany(8), VeilMint.NO_KEY);
        pair.due(pair.put(new byte[] {0, 2, head[2]}, eight, r).issueMany(8), VeilMint.REFUSED);
        pair.due(pair.put(new byte[] {1, 1, head[2]}, eight, r).issueMany(8), VeilMint.REFUSED);
        pair.due(pair.put(new byte[] {0, 1}).issueMany(1), VeilMint.REFUSED);
        pair.due(pair.put(head, Elements.of(1), Elements.none(), r).issueMany(2), VeilMint.BAD);
        pair.due(pair.put(head, Elements.of(1), Elements.of(2), Pair.scalar(0)).issueMany(2), VeilMint.BAD);
        pair.due(pair.put(head, Elements.of(1), Elements.of(2), Pair.scalar(Q)).issueMany(2), VeilMint.BAD);
        pair.retire(0);
        pair.due(pair.put(head, eight, r).issueMany(8), VeilMint.NO_KEY);
        sameTwice();
    }

    /** One ELEMENT twice, with factors that begin with the same digit: then a sum is of a point and itself. */
    private static void sameTwice() {
        Pair pair = new Pair("13, one twice");
        pair.secretKey(ONE);
        int found = 0;
        for (long k = 2; found < 3; k++) {
            Model.Spot c = Model.times(BigInteger.valueOf(k), Model.G);
            List<BigInteger> weights = Model.weights(Model.G, List.of(c, c), List.of(c, c));
            if (weights.get(0).shiftRight(380).equals(weights.get(1).shiftRight(380))) {
                found++;
                byte[] twice = Model.join(Elements.of(k), Elements.of(k));
                pair.due(pair.put(pair.head(0), twice, Pair.scalar(k)).issueMany(2), 2 * 49 + 96);
            }
        }
    }

    // ---- 14 and 15: finalize, finalizeMany ----

    /** Calls of which nothing may be left that a later one could take for its own. */
    private static void disturb(Pair pair) {
        pair.put(pair.head(0), Elements.of(31), Elements.of(32), Elements.of(33), Pair.scalar(34)).issueMany(3);
        pair.put(pair.head(0), Elements.of(35), Pair.scalar(36)).issue();
        pair.put(pair.ownToken(0, Pair.nonce(37, 38)), new byte[1]).redeem();
        pair.put(Pair.bent(pair.ownToken(0, Pair.nonce(39, 40)), 100)).redeem();
        pair.secretKey(BigInteger.valueOf(41));
        pair.digest();
    }

    private static void finalizeOfType1() {
        Pair pair = new Pair("14, TYPE 1");
        pair.due(pair.put(new byte[145]).finalize(0), THROWN);
        pair.due(pair.count(8), 0);
        pair.secretKey(new BigInteger(383, MAKE));
        BigInteger blind = new BigInteger(383, MAKE);
        pair.put(NONCE, DIGEST, Pair.scalar(blind)).request(0);
        byte[] request = pair.left();
        pair.put(request, Pair.scalar(new BigInteger(383, MAKE))).issue();
        byte[] answer = pair.left();
        pair.put(Pair.nonce(1, 1), DIGEST, Pair.scalar(3)).request(0);
        for (int asking : new int[] {-1, 2, 60, MIN, MAX}) {
            pair.due(pair.put(answer).finalize(asking), THROWN);
            pair.due(pair.count(8), 0);
        }
        for (int size : new int[] {0, 49, 144}) {
            pair.due(pair.put(Model.slice(answer, 0, size)).finalize(0), VeilMint.REFUSED);
        }
        pair.due(pair.put(answer, new byte[1]).finalize(0), VeilMint.REFUSED);
        for (byte[] element : Elements.wrong()) {
            pair.due(pair.put(element, Model.slice(answer, 49, 96)).finalize(0), VeilMint.BAD);
        }
        for (int at : new int[] {0, 48, 49, 96, 97, 144}) {
            pair.due(pair.put(Pair.bent(answer, at)).finalize(0), VeilMint.BAD);
        }
        pair.due(pair.put(answer).finalize(1), VeilMint.BAD);
        pair.due(pair.put(Model.slice(answer, 0, 49), new byte[96]).finalize(0), VeilMint.BAD);
        pair.due(pair.put(Model.slice(answer, 0, 49), Pair.scalar(Q), Pair.scalar(Q)).finalize(0), VeilMint.BAD);
        pair.due(pair.count(3), 2);
        disturb(pair);
        pair.retire(0);
        pair.due(pair.put(answer).finalize(0), 146);
        pair.due(pair.count(3), 1);
        pair.due(pair.put(answer).finalize(0), THROWN);
        pair.due(pair.put(new byte[3]).finalize(0), THROWN);
        pair.due(pair.count(8), 0);
        scalarsAboveQ();
        sumsThatMeet();
    }

    /** With these, sums of points meet the same point, its negative, or none on their way. */
    private static void sumsThatMeet() {
        BigInteger[] secrets = {ONE, BigInteger.TWO, BigInteger.valueOf(16), Q.subtract(ONE),
            Q.subtract(BigInteger.TWO), Q.shiftRight(1), Q.add(ONE).shiftRight(1)};
        Pair pair = null;
        for (int i = 0; i < secrets.length; i++) {
            pair = i % 6 == 0 ? new Pair("14, sums that meet") : pair;
            int key = pair.secretKey(secrets[i]);
            for (BigInteger r : new BigInteger[] {ONE, BigInteger.valueOf(5), Q.subtract(ONE), secrets[i]}) {
                int asking = pair.put(Pair.nonce(i, 9), DIGEST, Pair.scalar(r)).request(key);
                byte[] request = pair.left();
                pair.put(request, Pair.scalar(r)).issue();
                pair.due(pair.put(pair.left()).finalize(asking), 146);
                pair.due(pair.put(pair.head(key), Elements.of(1), Model.element(Model.times(secrets[i], Model.G)),
                    Elements.of(1), Pair.scalar(r)).issueMany(3), 3 * 49 + 96);
                byte[] opposites = Model.join(Elements.of(1), Pair.bent(Elements.of(1), 0));
                pair.due(pair.put(pair.head(key), opposites, Pair.scalar(r)).issueMany(2), 2 * 49 + 96);
            }
        }
    }

    /** A PROOF of numbers that are not below Q is none, though they would be right modulo Q. */
    private static void scalarsAboveQ() {
        Pair pair = new Pair("14, no SCALARS");
        pair.secretKey(BigInteger.valueOf(3));
        pair.put(NONCE, DIGEST, Pair.scalar(1)).request(0);
        pair.put(pair.left(), Pair.scalar(10)).issue();
        byte[] answer = pair.left();
        byte[] most = Pair.scalar(ONE.shiftLeft(384).subtract(ONE));
        pair.due(pair.put(Model.slice(answer, 0, 97), most).finalize(0), VeilMint.BAD);
        pair.due(pair.put(Model.slice(answer, 0, 49), most, Model.slice(answer, 97, 48)).finalize(0), VeilMint.BAD);
        pair.due(pair.put(answer).finalize(0), 146);
    }

    private static void finalizeOfType2() {
        Pair pair = new Pair("14, TYPE 2");
        for (Rsa rsa : new Rsa[] {SMALL, SALTED}) {
            int key = pair.rsaKey(rsa);
            int asking = pair.put(NONCE, DIGEST, Pair.random(MAKE, rsa.salt), rsa.blind(MAKE)).request(key);
            pair.put(pair.left()).issue();
            byte[] answer = pair.left();
            BigInteger z = Model.number(answer);
            pair.put(Pair.random(MAKE, 64 + rsa.salt), rsa.blind(MAKE)).request(key);
            pair.due(pair.put(Model.slice(answer, 0, rsa.len - 1)).finalize(asking), VeilMint.REFUSED);
            pair.due(pair.put(answer, new byte[1]).finalize(asking), VeilMint.REFUSED);
            pair.due(pair.put(new byte[145]).finalize(asking), VeilMint.REFUSED);
            BigInteger[] wrong = {BigInteger.ZERO, ONE, rsa.n, ONE.shiftLeft(8 * rsa.len).subtract(ONE),
                z.add(ONE), rsa.n.subtract(z)};
            for (BigInteger one : wrong) {
                pair.due(pair.put(Model.bytes(one, rsa.len)).finalize(asking), VeilMint.BAD);
            }
            if (z.add(rsa.n).bitLength() <= 8 * rsa.len) {
                pair.due(pair.put(Model.bytes(z.add(rsa.n), rsa.len)).finalize(asking), VeilMint.BAD);
            }
            pair.retire(key);
            pair.due(pair.put(answer).finalizeMany(asking, 1), VeilMint.REFUSED);
            pair.due(pair.put(answer).finalize(asking), 98 + rsa.len);
            pair.due(pair.put(answer).finalize(asking), THROWN);
        }
    }

    private static void finalizeMany() {
        Pair pair = new Pair("15");
        pair.secretKey(new BigInteger(383, MAKE));
        pair.secretKey(BigInteger.TWO);
        pair.rsaKey(SMALL);
        byte[] asked = pair.head(0);
        for (int i = 0; i < 8; i++) {
            pair.put(Pair.nonce(i, 2), DIGEST, Pair.scalar(new BigInteger(383, MAKE))).request(0);
            asked = Model.join(asked, Model.slice(pair.left(), 3, 49));
        }
        pair.put(Pair.nonce(8, 2), DIGEST, Pair.scalar(1)).request(1);
        pair.put(Pair.nonce(9, 2), DIGEST, SMALL.blind(MAKE)).request(2);
        pair.due(pair.put(asked, Pair.scalar(8)).issueMany(8), 8 * 49 + 96);
        byte[] answer = pair.left();
        int[][] none = {{0, 0}, {0, 9}, {0, -1}, {0, MIN}, {0, MAX}, {-1, 1}, {-1, 2}, {10, 1}, {9, 2}, {3, 8},
            {MAX, 1}, {MAX, 8}, {MIN, 8}, {MIN, 1}};
        for (int[] one : none) {
            pair.due(pair.put(answer).finalizeMany(one[0], one[1]), THROWN);
            pair.due(pair.count(8), 0);
        }
        pair.due(pair.put(answer).finalizeMany(1, 8), VeilMint.REFUSED);
        pair.due(pair.put(new byte[2 * 49 + 96]).finalizeMany(7, 2), VeilMint.REFUSED);
        pair.due(pair.put(new byte[2 * 49 + 96]).finalizeMany(6, 2), VeilMint.BAD);
        pair.due(pair.put(new byte[49 + 96]).finalizeMany(9, 1), VeilMint.REFUSED);
        pair.due(pair.put(answer).finalizeMany(8, 2), VeilMint.REFUSED);
        pair.due(pair.put(answer).finalizeMany(9, 1), VeilMint.REFUSED);
        pair.due(pair.put(answer).finalizeMany(0, 7), VeilMint.REFUSED);
        pair.due(pair.put(answer, new byte[1]).finalizeMany(0, 8), VeilMint.REFUSED);
        pair.due(pair.put(Pair.bent(answer, 49 * 8 - 1)).finalizeMany(0, 8), VeilMint.BAD);
        pair.due(pair.put(Pair.bent(answer, 49 * 8 + 95)).finalizeMany(0, 8), VeilMint.BAD);
        byte[] swapped = Model.join(Model.slice(answer, 49, 49), Model.slice(answer, 0, 49),
            Model.slice(answer, 98, answer.length - 98));
        pair.due(pair.put(swapped).finalizeMany(0, 8), VeilMint.BAD);
        pair.due(pair.count(3), 10);
        disturb(pair);
        pair.due(pair.put(answer).finalizeMany(0, 8), 8 * 146);
        pair.due(pair.count(3), 2);
        for (int i = 0; i < 8; i++) {
            pair.again(146 * i, 146);
            pair.due(pair.redeem(), 0);
        }
        pair.due(pair.put(answer).finalizeMany(0, 8), THROWN);
        pair.due(pair.put(answer).finalizeMany(7, 2), THROWN);
        pair.put(Pair.nonce(10, 2), DIGEST, Pair.scalar(1)).request(1);
        pair.put(pair.left(), Pair.scalar(4)).issue();
        pair.due(pair.put(pair.left()).finalizeMany(10, 1), 146);
    }

    // ---- 16 to 20: redeem, the DISK, power ----

    private static void redeemOfType1() {
        Pair pair = new Pair("16, TYPE 1");
        pair.due(pair.redeem(), VeilMint.REFUSED);
        pair.due(pair.put(new byte[97]).redeem(), VeilMint.REFUSED);
        pair.due(pair.put(new byte[98]).redeem(), VeilMint.NO_KEY);
        pair.secretKey(new BigInteger(383, MAKE));
        pair.rsaKey(SMALL);
        byte[] token = pair.ownToken(0, NONCE);
        for (int size : new int[] {98, 145}) {
            pair.due(pair.put(Model.slice(token, 0, size)).redeem(), VeilMint.REFUSED);
        }
        pair.due(pair.put(Model.slice(token, 0, 97)).redeem(), VeilMint.REFUSED);
        pair.due(pair.put(token, new byte[1]).redeem(), VeilMint.REFUSED);
        for (int at : new int[] {2, 33, 34, 65, 98, 145}) {
            pair.due(pair.put(Pair.bent(token, at)).redeem(), VeilMint.BAD);
        }
        for (int at : new int[] {0, 1, 66, 97}) {
            pair.due(pair.put(Pair.bent(token, at)).redeem(), VeilMint.NO_KEY);
        }
        byte[] other = token.clone();
        other[1] = 2;
        pair.due(pair.put(other).redeem(), VeilMint.NO_KEY);
        pair.due(pair.put(token).redeem(), 0);
        pair.due(pair.count(8), 0);
        pair.due(pair.put(token).redeem(), VeilMint.SPENT);
        pair.due(pair.put(Pair.bent(token, 145)).redeem(), VeilMint.BAD);
        pair.due(pair.count(9), 1);
        pair.due(pair.outs(), 0);
        pair.retire(0);
        pair.due(pair.put(token).redeem(), VeilMint.NO_KEY);
        pair.due(pair.put(Model.slice(token, 0, 98)).redeem(), VeilMint.NO_KEY);
        pair.secretKey(pair.m.keys.get(0).secret);
        pair.due(pair.put(token).redeem(), VeilMint.SPENT);
        pair.due(pair.put(pair.ownToken(2, Pair.nonce(1, 7))).redeem(), 0);
    }

    private static void redeemOfType2() {
        Random random = new Random(5);
        // The second and fourth have codes of a byte less than N; the last two are at the ends of LEN.
        Rsa[] all = {SMALL, Rsa.make(521, 3, 0, random), SALTED, Rsa.make(793, 17, 48, random),
            Rsa.make(522, 5, 0, random), Rsa.make(794, 5, 48, random), Rsa.make(527, 5, 0, random),
            Rsa.make(2048, 3, 48, random), Rsa.make(1024, 65537, 0, random)};
        for (Rsa rsa : all) {
            Pair pair = new Pair("16, TYPE 2 of " + rsa.n.bitLength() + " bits");
            int key = pair.rsaKey(rsa);
            byte[] token = pair.signedToken(key, rsa, NONCE, rsa.len);
            Pair.check("a token", token.length == 98 + rsa.len);
            for (int at : new int[] {2, 65, 98, 97 + rsa.len}) {
                pair.due(pair.put(Pair.bent(token, at)).redeem(), VeilMint.BAD);
            }
            pair.due(pair.put(Model.slice(token, 0, 97 + rsa.len)).redeem(), VeilMint.REFUSED);
            pair.due(pair.put(token, new byte[1]).redeem(), VeilMint.REFUSED);
            byte[] input = Model.slice(token, 0, 98);
            BigInteger s = Model.number(Model.slice(token, 98, rsa.len));
            pair.due(pair.put(input, Model.bytes(rsa.n.subtract(s), rsa.len)).redeem(), VeilMint.BAD);
            pair.due(pair.put(input, new byte[rsa.len]).redeem(), VeilMint.BAD);
            if (s.add(rsa.n).bitLength() <= 8 * rsa.len) {
                pair.due(pair.put(input, Model.bytes(s.add(rsa.n), rsa.len)).redeem(), VeilMint.BAD);
            }
            for (BigInteger code : rsa.wrongCodes(input)) {
                pair.due(pair.put(input, rsa.signed(code)).redeem(), VeilMint.BAD);
            }
            // A redeemer that knows nothing of how the token came to be, and one that has seen another salt since.
            Pair stranger = new Pair("16, a stranger");
            stranger.rsaKey(rsa);
            stranger.due(stranger.put(token).redeem(), 0);
            pair.put(Pair.random(MAKE, 64 + rsa.salt), rsa.blind(MAKE)).request(key);
            pair.due(pair.put(token).redeem(), 0);
            pair.due(pair.put(token).redeem(), VeilMint.SPENT);
            pair.retire(key);
            pair.due(pair.put(token).redeem(), VeilMint.NO_KEY);
        }
    }

    /** The mask is made of pieces of 48 bytes: here the last piece gives one byte, two, or all. */
    private static void lengthsOfMasks() {
        for (int len : new int[] {97, 98, 99, 144, 145, 146, 147, 193, 194}) {
            for (int first = 1; first <= 2; first++) {
                int salt = len < 100 ? 0 : 48;
                Rsa rsa = Rsa.makePrime(BigInteger.valueOf(first).shiftLeft(8 * len - 8), 65537, salt);
                Pair pair = new Pair("16, LEN " + len + " from " + first);
                byte[] token = pair.signedToken(pair.rsaKey(rsa), rsa, NONCE, len);
                pair.due(token.length, 98 + len);
                pair.due(pair.put(Pair.bent(token, 97 + len)).redeem(), VeilMint.BAD);
                pair.due(pair.put(token).redeem(), 0);
            }
        }
    }

    private static void slots() {
        Pair pair = new Pair("16, the slots");
        pair.secretKey(ONE);
        // 0xffffffff % 112 is 31, 2^31 % 112 is 16; 111 and those that come behind it go round to 0.
        long[] firsts = {0xffffffffL, 0x80000000L, 111, 223, 111, 0, 13, 14, 13, 110};
        int[] due = {31, 16, 111, 0, 1, 2, 13, 14, 15, 110};
        for (int i = 0; i < firsts.length; i++) {
            byte[] token = pair.ownToken(0, Pair.nonce(firsts[i], i));
            pair.due(pair.put(token).redeem(), 0);
            int at = 512 * (due[i] / 14) + 36 * (due[i] % 14);
            pair.due(pair.disk(at + 3), 1);
            pair.due(pair.disk(at + 35), i);
            pair.due(pair.put(token).redeem(), VeilMint.SPENT);
            pair.due(pair.count(5), i + 1);
            pair.due(pair.power(), i + 1);
        }
        for (int i : new int[] {-1, 4096, MIN, MAX}) {
            pair.due(pair.disk(i), -1);
        }
        pair.due(pair.disk(511), 0);
        pair.due(pair.disk(4095), 0);
    }

    private static void fullDisk() {
        Pair pair = new Pair("16, a full disk");
        pair.secretKey(ONE);
        for (int i = 0; i < 112; i++) {
            pair.due(pair.put(pair.ownToken(0, Pair.nonce(50, i))).redeem(), 0);
        }
        byte[] one = pair.ownToken(0, Pair.nonce(50, 112));
        pair.due(pair.put(one).redeem(), VeilMint.FULL);
        pair.due(pair.put(Pair.bent(one, 145)).redeem(), VeilMint.BAD);
        pair.due(pair.put(pair.ownToken(0, Pair.nonce(50, 111))).redeem(), VeilMint.SPENT);
        pair.cut(0);
        pair.due(pair.put(one).redeem(), VeilMint.FULL);
        pair.due(pair.count(6), 0);
        pair.due(pair.power(), 112);
        pair.due(pair.count(5), 112);
        pair.due(pair.count(9), 112);
    }

    private static void powerGoes() {
        Pair pair = new Pair("17 and 18");
        pair.secretKey(ONE);
        byte[][] tokens = new byte[5][];
        for (int i = 0; i < 5; i++) {
            tokens[i] = pair.ownToken(0, Pair.nonce(i, 3));
        }
        for (int wrong : new int[] {-1, 1001, MIN, MAX}) {
            Pair.check("no such cut", !pair.cut(wrong));
            pair.due(pair.count(7), -1);
        }
        Pair.check("the largest", pair.cut(1000));
        pair.due(pair.count(7), 1000);
        Pair.check("in place of it", pair.cut(2));
        pair.due(pair.put(tokens[0]).redeem(), 0);
        pair.due(pair.count(7), 1);
        pair.due(pair.put(tokens[0]).redeem(), VeilMint.SPENT);
        pair.due(pair.put(Pair.bent(tokens[1], 140)).redeem(), VeilMint.BAD);
        pair.due(pair.count(7), 1);
        Pair.check("no such cut leaves the old one", !pair.cut(1001));
        pair.due(pair.put(tokens[1]).redeem(), 0);
        pair.due(pair.count(7), 0);
        pair.due(pair.count(6), 0);
        pair.due(pair.put(tokens[1]).redeem(), VeilMint.SPENT);
        pair.due(pair.put(new byte[3]).redeem(), VeilMint.REFUSED);
        pair.due(pair.put(tokens[2]).redeem(), VeilMint.DOWN);
        pair.due(pair.count(6), 1);
        pair.due(pair.count(7), 0);
        pair.due(pair.count(5), 2);
        pair.due(pair.count(4), 2);
        pair.due(pair.count(9), 2);
        pair.due(pair.put(new byte[3]).redeem(), VeilMint.DOWN);
        pair.due(pair.count(8), 0);
        pair.due(pair.put(tokens[0]).redeem(), VeilMint.DOWN);
        Pair.check("not while it is down", !pair.cut(3));
        pair.due(pair.count(7), 0);
        pair.digest();
        pair.put(NONCE, DIGEST, Pair.scalar(1)).request(0);
        pair.due(pair.power(), 2);
        pair.due(pair.count(6), 0);
        pair.due(pair.count(7), -1);
        for (int i = 2; i < 4; i++) {
            pair.due(pair.put(tokens[i]).redeem(), 0);
        }
        pair.due(pair.put(tokens[2]).redeem(), VeilMint.SPENT);
        pair.cut(0);
        pair.due(pair.power(), 4);
        pair.due(pair.put(tokens[4]).redeem(), 0);
        pair.due(pair.count(5), 5);
    }

    private static void counts() {
        Pair pair = new Pair("20");
        pair.secretKey(BigInteger.TWO);
        pair.rsaKey(SMALL);
        pair.retire(0);
        byte[] token = pair.signedToken(1, SMALL, NONCE, 9);
        pair.put(NONCE, DIGEST, SMALL.blind(MAKE)).request(1);
        pair.cut(7);
        pair.put(token).redeem();
        pair.feed(1, 2, 3, 4, 5);
        int[] due = {2, 1, 2, 1, 1, 1, 0, 6, 20, 1};
        for (int i = 0; i < due.length; i++) {
            pair.due(pair.count(i), due[i]);
        }
        for (int what : new int[] {-1, 10, MIN, MAX}) {
            pair.due(pair.count(what), -1);
        }
    }
}
