import java.math.BigInteger;
import java.util.List;

/** Terms 2 and 3: what the two TYPES reckon with, sentence by sentence. */
final class TypesSentencesTest extends Sentences {
    private static final byte[] R = Pair.scalar(11);

    public static void main(String[] args) {
        run(TypesSentencesTest.class);
    }

    @Sentence(of = "Terms 2", says = "An ELEMENT is 49 bytes: 2 or 3 (y even, odd),")
    static void elementBegins(Pair pair) {
        // By 1 a point stays, by Q - 1 it gets the other y.
        pair.secretKey(ONE);
        pair.secretKey(Q.subtract(ONE));
        for (int k = 5; k < 9; k++) {
            BigInteger x = Model.number(Model.slice(Elements.of(k), 1, 48));
            for (int first = 2; first <= 3; first++) {
                pair.due(pair.put(pair.head(0), Elements.of(first, x), R).issue(), 145);
                sameBytes("the same y", Model.slice(pair.seen(), 0, 49), Elements.of(first, x));
                pair.due(pair.put(pair.head(1), Elements.of(first, x), R).issue(), 145);
                sameBytes("the other y", Model.slice(pair.seen(), 0, 49), Elements.of(5 - first, x));
            }
            for (int first : new int[] {0, 1, 4, 5, 130, 131, 255}) {
                pair.due(pair.put(pair.head(0), Elements.of(first, x), R).issue(), BAD);
            }
            pair.due(pair.put(pair.head(0), Model.slice(Elements.of(2, x), 0, 48), R).issue(), REFUSED);
            pair.due(pair.put(pair.head(0), Elements.of(2, x), new byte[1], R).issue(), REFUSED);
        }
    }

    @Sentence(of = "Terms 2", says = "x (below P, with a point that has it).")
    static void elementHasPoint(Pair pair) {
        pair.secretKey(ONE);
        byte[] head = pair.head(0);
        for (int first = 2; first <= 3; first++) {
            // From both ends of what is below P; then what has a point modulo P alone.
            for (int i = 0; i < 8; i++) {
                for (BigInteger x : new BigInteger[] {BigInteger.valueOf(i), P.subtract(BigInteger.valueOf(i + 1))}) {
                    pair.due(pair.put(head, Elements.of(first, x), R).issue(), Elements.hasPoint(x) ? 145 : BAD);
                }
                pair.due(pair.put(head, Elements.of(first, P.add(BigInteger.valueOf(i))), R).issue(), BAD);
            }
            pair.due(pair.put(head, Elements.beyond(first), R).issue(), BAD);
            pair.due(pair.put(head, Elements.of(first, MOST), R).issue(), BAD);
            BigInteger last = Elements.next(P.subtract(ONE), -1, true);
            pair.due(pair.put(head, Elements.of(first, last), R).issue(), 145);
            BigInteger without = Elements.next(P.subtract(ONE), -1, false);
            pair.due(pair.put(head, Elements.of(first, without), R).issue(), BAD);
        }
    }

    @Sentence(of = "Terms 2", says = "A SCALAR is 48 bytes, below Q;")
    static void scalarBelowQ(Pair pair) {
        BigInteger[] all = {Q.subtract(TWO), Q.subtract(ONE), Q, Q.add(ONE), Q.add(ONE.shiftLeft(64)), MOST};
        int right = 0;
        for (int i = 0; i < all.length; i++) {
            boolean below = i < 2;
            pair.due(pair.secretKey(all[i]), below ? i : REFUSED);
            pair.due(pair.wish(0, NONCE, all[i]).request(0), below ? i : BAD);
            pair.due(pair.put(pair.head(0), Elements.of(5), Pair.scalar(all[i])).issue(), below ? 145 : BAD);
            right += below ? 1 : 0;
        }
        pair.due(pair.count(0), right);
        // As numbers of a PROOF: with none of these it is right.
        pair.wish(0, NONCE, TWO).request(0);
        byte[] answer = pair.answerTo(11);
        byte[] element = Model.slice(answer, 0, 49);
        for (BigInteger one : all) {
            pair.due(pair.put(element, Pair.scalar(one), Model.slice(answer, 97, 48)).finalize(2), BAD);
            pair.due(pair.put(element, Model.slice(answer, 49, 48), Pair.scalar(one)).finalize(2), BAD);
        }
        pair.due(pair.put(answer).finalize(2), 146);
    }

    @Sentence(of = "Terms 2", says = "a SECRET is one above 0.")
    static void secretAboveZero(Pair pair) {
        pair.due(pair.secretKey(ZERO), REFUSED);
        pair.due(pair.secretKey(ONE), 0);
        pair.due(pair.secretKey(TWO), 1);
        byte[] head = pair.head(0);
        for (int i = 0; i <= 2; i++) {
            BigInteger secret = BigInteger.valueOf(i);
            pair.due(pair.wish(0, NONCE, secret).request(0), i == 0 ? BAD : i - 1);
            pair.due(pair.put(head, Elements.of(5), Pair.scalar(secret)).issue(), i == 0 ? BAD : 145);
            pair.due(pair.put(head, Elements.of(5), Pair.scalar(secret)).issueMany(1), i == 0 ? BAD : 145);
            pair.due(pair.put(head, Elements.of(5), Elements.of(6), Pair.scalar(secret)).issueMany(2),
                i == 0 ? BAD : 194);
        }
    }

    @Sentence(of = "Terms 2", says = "With the KEY K (a SECRET), its public ELEMENT A = K G:")
    static void publicElement(Pair pair) {
        BigInteger[] secrets = {ONE, TWO, BigInteger.valueOf(16), Q.subtract(TWO), Q.subtract(ONE),
            Q.add(ONE).shiftRight(1)};
        for (int i = 0; i < secrets.length; i++) {
            pair.due(pair.secretKey(secrets[i]), i);
            pair.due(pair.look(i, 1), 49);
            sameBytes("A", pair.seen(), Model.element(Model.times(secrets[i], Model.G)));
        }
    }

    @Sentence(of = "Terms 2", says = "blinding an INPUT by a SECRET R: R hashToGroup(INPUT).")
    static void blindingAnInput(Pair pair) {
        pair.secretKey(TWO);
        Model.Spot in = Model.hashToGroup(pair.input(0, NONCE));
        BigInteger[] blinds = {ONE, TWO, BigInteger.valueOf(16), Q.subtract(TWO), Q.subtract(ONE)};
        for (int i = 0; i < blinds.length; i++) {
            pair.due(pair.wish(0, NONCE, blinds[i]).request(0), i);
            sameBytes("blinded", Model.slice(pair.seen(), 3, 49), Model.element(Model.times(blinds[i], in)));
        }
    }

    @Sentence(of = "Terms 2", says = "Evaluating blinded ELEMENTS C1, .. Cm: Di = K Ci, and a PROOF by a SECRET R:")
    static void evaluating(Pair pair) {
        BigInteger secret = Q.subtract(BigInteger.valueOf(3));
        pair.secretKey(secret);
        // The same one twice, and one with its opposite: their sums need care.
        long[][] lists = {{1}, {5, 5}, {1, 2}, {7, 7, 7, 7, 7, 7, 7, 7}, {1, 2, 3, 4, 5, 6, 7, 8}};
        for (long[] list : lists) {
            for (BigInteger r : new BigInteger[] {ONE, Q.subtract(ONE), secret}) {
                checkEvaluation(pair, secret, list, r);
            }
        }
        byte[] one = Elements.of(5);
        pair.due(pair.put(pair.head(0), one, Pair.bent(one, 0), R).issueMany(2), 194);
        sameBytes("opposites", pair.seen(), Model.evaluate(secret, List.of(Model.spot(one),
            Model.spot(Pair.bent(one, 0))), BigInteger.valueOf(11)));
    }

    private static void checkEvaluation(Pair pair, BigInteger secret, long[] list, BigInteger r) {
        byte[] all = new byte[0];
        List<Model.Spot> spots = new java.util.ArrayList<>();
        for (long k : list) {
            all = Model.join(all, Elements.of(k));
            spots.add(Model.spot(Elements.of(k)));
        }
        pair.due(pair.put(pair.head(0), all, Pair.scalar(r)).issueMany(list.length), 49 * list.length + 96);
        sameBytes("of " + list.length, pair.seen(), Model.evaluate(secret, spots, r));
    }

    @Sentence(of = "Terms 2",
        says = "It is right for A, Ci, Di, if c is what comes likewise with T = s G + c A, U = s M + c Z.")
    static void proofIsRight(Pair pair) {
        BigInteger secret = BigInteger.valueOf(31);
        pair.secretKey(secret);
        BigInteger[] rs = {ONE, TWO, secret, Q.subtract(ONE), new BigInteger(383, new java.util.Random(1))};
        for (int i = 0; i < rs.length; i++) {
            pair.wish(0, NONCE, TWO).request(0);
            Model.Spot asked = Model.spot(Model.slice(pair.seen(), 3, 49));
            byte[] answer = Model.evaluate(secret, List.of(asked), rs[i]);
            BigInteger c = Model.number(Model.slice(answer, 49, 48));
            BigInteger s = Model.number(Model.slice(answer, 97, 48));
            byte[] element = Model.slice(answer, 0, 49);
            for (BigInteger by : new BigInteger[] {ONE, ONE.negate()}) {
                pair.due(pair.put(element, Pair.scalar(c.add(by)), Pair.scalar(s)).finalize(i), BAD);
                pair.due(pair.put(element, Pair.scalar(c), Pair.scalar(s.add(by))).finalize(i), BAD);
                // T stays as it was with these, c is still not what comes.
                pair.due(pair.put(element, Pair.scalar(c.add(by).mod(Q)),
                    Pair.scalar(s.subtract(secret.multiply(by)).mod(Q))).finalize(i), BAD);
            }
            // Right for another secret than that of A.
            byte[] other = Model.evaluate(secret.add(ONE), List.of(asked), rs[i]);
            pair.due(pair.put(other).finalize(i), BAD);
            pair.due(pair.put(answer).finalize(i), 146);
        }
    }

    @Sentence(of = "Terms 2",
        says = "(A point that is none, where an ELEMENT would be made of it: the call answers BAD.)")
    static void pointThatIsNone(Pair pair) {
        BigInteger secret = BigInteger.valueOf(31);
        pair.secretKey(secret);
        pair.wish(0, NONCE, TWO).request(0);
        byte[] answer = pair.answerTo(11);
        byte[] element = Model.slice(answer, 0, 49);
        BigInteger right = Model.number(Model.slice(answer, 49, 48));
        for (BigInteger c : new BigInteger[] {ZERO, ONE, TWO, Q.subtract(ONE), right}) {
            // T = (s + c K) G: none, and those next to none.
            for (int t = -1; t <= 1; t++) {
                BigInteger s = BigInteger.valueOf(t).subtract(c.multiply(secret)).mod(Q);
                pair.due(pair.put(element, Pair.scalar(c), Pair.scalar(s)).finalize(0), BAD);
                pair.due(pair.put(element, Pair.scalar(c), Pair.scalar(s)).finalizeMany(0, 1), BAD);
            }
        }
        pair.due(pair.put(answer).finalize(0), 146);
    }

    @Sentence(of = "Terms 2", says = "The OUTPUT of an INPUT: H3 of (its length, 2), it, (49, 2), the ELEMENT"
        + " K hashToGroup(INPUT), Finalize.")
    static void outputOfAnInput(Pair pair) {
        BigInteger[] secrets = {ONE, Q.subtract(ONE)};
        for (int key = 0; key < 2; key++) {
            pair.secretKey(secrets[key]);
            byte[] input = pair.input(key, Pair.nonce(key, 1));
            byte[] element = Model.element(Model.times(secrets[key], Model.hashToGroup(input)));
            byte[] output = Model.h3(Model.join(Model.hex("0062"), input, Model.hex("0031"), element,
                Model.text("Finalize")));
            pair.due(pair.put(input, Pair.bent(output, 0)).redeem(), BAD);
            pair.due(pair.put(input, Pair.bent(output, 47)).redeem(), BAD);
            pair.due(pair.put(input, output).redeem(), 0);
        }
    }

    private static int keyOf(BigInteger n, int len, long e, int salt) {
        Pair pair = new Pair("Terms 3, LEN " + len + ", E " + e + ", S " + salt);
        return pair.put(Rsa.tape(n, e, ONE, salt, len)).key(2);
    }

    @Sentence(of = "Terms 3", says = "N is a modulus of LEN bytes (the first one not 0;")
    static void modulusBegins(Pair pair) {
        for (int len : new int[] {66, 100, 256}) {
            for (int first : new int[] {0, 1, 2, 127, 128, 255}) {
                pair.due(keyOf(modulus(len, first), len, 3, 0), first == 0 ? REFUSED : 0);
            }
        }
    }

    @Sentence(of = "Terms 3", says = "66 to 256),")
    static void modulusOfLengths(Pair pair) {
        for (int len : new int[] {1, 2, 50, 64, 65, 66, 67, 255, 256, 257, 258, 300, 598}) {
            pair.due(keyOf(modulus(len, 255), len, 3, 0), len < 66 || len > 256 ? REFUSED : 0);
        }
    }

    @Sentence(of = "Terms 3", says = "odd;")
    static void modulusIsOdd(Pair pair) {
        for (int len : new int[] {66, 256}) {
            BigInteger n = modulus(len, 200);
            pair.due(keyOf(n.subtract(ONE), len, 3, 0), REFUSED);
            pair.due(keyOf(n, len, 3, 0), 0);
            pair.due(keyOf(n.clearBit(0), len, 3, 0), REFUSED);
            pair.due(keyOf(ONE.shiftLeft(8 * len - 1).add(ONE), len, 3, 0), 0);
            pair.due(keyOf(ONE.shiftLeft(8 * len - 1), len, 3, 0), REFUSED);
            pair.due(keyOf(ONE.shiftLeft(8 * len).subtract(ONE), len, 3, 0), 0);
            pair.due(keyOf(ONE.shiftLeft(8 * len).subtract(TWO), len, 3, 0), REFUSED);
        }
    }

    @Sentence(of = "Terms 3", says = "E odd, 3 to 65537, three bytes;")
    static void exponents(Pair pair) {
        for (int e : new int[] {0, 1, 2, 4, 6, 256, 65534, 65536, 65538, 65539, 65541, 0x010003, 0x020003, 0x800003,
            0xffffff}) {
            pair.due(keyOf(PLAIN.n, 66, e, 0), REFUSED);
        }
        for (int e : new int[] {3, 5, 127, 129, 255, 257, 32767, 32769, 65535, 65537}) {
            pair.due(keyOf(PLAIN.n, 66, e, 0), 0);
        }
    }

    @Sentence(of = "Terms 3", says = "D, LEN bytes;")
    static void exponentsThatSign(Pair pair) {
        // To the 1 everything stays; to the N - 1 modulo a prime everything is 1.
        BigInteger[] ds = {ONE, LOW.n.subtract(ONE), LOW.d};
        BigInteger x = BigInteger.valueOf(99);
        for (int key = 0; key < 3; key++) {
            pair.due(pair.put(LOW.withD(ds[key]).tape()).key(2), key);
            boolean right = key == 2;
            pair.due(pair.put(pair.head(key), Model.bytes(x, 66)).issue(), right ? 66 : BAD);
            pair.due(pair.put(pair.head(key), Model.bytes(ONE, 66)).issue(), 66);
            sameBytes("1 to whatever it is", pair.seen(), Model.bytes(ONE, 66));
            pair.retire(key);
        }
    }

    @Sentence(of = "Terms 3", says = "S the length of salts, 0 or 48 (LEN at least 100 then).")
    static void salts(Pair pair) {
        for (int len : new int[] {66, 98, 99, 100, 101, 256}) {
            for (int first : new int[] {1, 255}) {
                BigInteger n = modulus(len, first);
                for (int salt : new int[] {1, 2, 24, 47, 49, 96, 128, 176, 255}) {
                    pair.due(keyOf(n, len, 3, salt), REFUSED);
                }
                pair.due(keyOf(n, len, 3, 0), 0);
                pair.due(keyOf(n, len, 3, 48), len >= 100 ? 0 : REFUSED);
            }
        }
    }

    @Sentence(of = "Terms 3", says = "Encoding an INPUT with a salt: EMSA-PSS-ENCODE (RFC 8017, with H3 and MGF1 of"
        + " H3), for as many bits as N has, less 1.")
    static void encoding(Pair pair) {
        for (int first : new int[] {1, 2, 3, 4, 7, 8, 15, 16, 31, 32, 63, 64, 127, 128, 255}) {
            for (int len : new int[] {66, 100}) {
                int salt = len == 100 ? 48 : 0;
                Rsa rsa = Rsa.makePrime(BigInteger.valueOf(first).shiftLeft(8 * len - 8), 65537, salt);
                Pair one = new Pair("Terms 3, from " + first + ", LEN " + len);
                one.rsaKey(rsa);
                // Blinded by 1, the code itself is in the REQUEST.
                one.due(one.put(NONCE, DIGEST, some(salt), Model.bytes(ONE, len)).request(0), 0);
                byte[] code = Model.encode(one.input(0, NONCE), some(salt), rsa.n.bitLength() - 1);
                sameBytes("the code", Model.slice(one.seen(), 3, len), Model.bytes(Model.number(code), len));
                one.due(one.out(2 + len), 0xbc);
                pair.due(one.put(one.ownToken(0, NONCE)).redeem(), 0);
            }
        }
    }

    @Sentence(of = "Terms 3", says = "Blinding by a number R: the encoded number m (coprime to N) times R^E modulo N.")
    static void blindingByNumbers(Pair pair) {
        Rsa[] rsas = {PLAIN, SALTED, LOW};
        int asking = 0;
        for (int key = 0; key < 3; key++) {
            Rsa rsa = rsas[key];
            pair.rsaKey(rsa);
            BigInteger m = Model.number(Model.encode(pair.input(key, NONCE), new byte[rsa.salt],
                rsa.n.bitLength() - 1));
            // With the inverse of m the product of R and m is as small as it may be.
            BigInteger[] blinds = {ONE, TWO, rsa.n.subtract(TWO), rsa.n.subtract(ONE), m, m.modInverse(rsa.n)};
            for (BigInteger blind : blinds) {
                pair.due(pair.wish(key, NONCE, blind).request(key), asking);
                sameBytes("blinded", Model.slice(pair.seen(), 3, rsa.len),
                    Model.bytes(m.multiply(blind.modPow(rsa.e, rsa.n)).mod(rsa.n), rsa.len));
                pair.due(pair.put(pair.answerTo(0)).finalize(asking), 98 + rsa.len);
                sameBytes("nothing of the blind is left", pair.seen(), pair.ownToken(key, NONCE));
                asking++;
            }
        }
    }

    @Sentence(of = "Terms 3", says = "Signing: x^D modulo N, which must give x by E.")
    static void signing(Pair pair) {
        BigInteger[] ds = {ONE, SALTED.d.subtract(ONE), SALTED.d, SALTED.d.add(ONE), SALTED.n.subtract(ONE)};
        for (int key = 0; key < ds.length; key++) {
            pair.due(pair.put(SALTED.withD(ds[key]).tape()).key(2), key);
            for (BigInteger x : new BigInteger[] {TWO, SALTED.n.subtract(TWO), BigInteger.valueOf(12345)}) {
                pair.due(pair.put(pair.head(key), Model.bytes(x, 100)).issue(), key == 2 ? 100 : BAD);
                if (key == 2) {
                    sameBytes("x to the D", pair.seen(), SALTED.signed(x));
                }
            }
            pair.retire(key);
        }
    }

    @Sentence(of = "Terms 3", says = "A signature s is right for an INPUT, if it is below N")
    static void signatureBelowN(Pair pair) {
        pair.rsaKey(LOW);
        byte[] token = pair.ownToken(0, NONCE);
        byte[] input = Model.slice(token, 0, 98);
        BigInteger s = Model.number(Model.slice(token, 98, 66));
        for (int times : new int[] {1, 2, 3, 50, 100, 200, 254}) {
            BigInteger more = s.add(LOW.n.multiply(BigInteger.valueOf(times)));
            pair.due(pair.put(input, Model.bytes(more, 66)).redeem(), BAD);
        }
        for (BigInteger one : new BigInteger[] {ZERO, LOW.n.subtract(ONE), LOW.n, LOW.n.add(ONE)}) {
            pair.due(pair.put(input, Model.bytes(one, 66)).redeem(), BAD);
        }
        pair.due(pair.put(token).redeem(), 0);
    }

    @Sentence(of = "Terms 3", says = "and s^E modulo N is what EMSA-PSS-VERIFY takes, with salts of S bytes.")
    static void signatureOfCodes(Pair pair) {
        // The last two have codes of a byte less than N, and room for a bit more in that byte.
        Rsa[] rsas = {PLAIN, SALTED, LARGEST, Rsa.makePrime(BigInteger.valueOf(511).shiftLeft(512), 3, 0),
            Rsa.makePrime(BigInteger.valueOf(511).shiftLeft(784), 3, 48)};
        for (int key = 0; key < rsas.length; key++) {
            Rsa rsa = rsas[key];
            pair.due(pair.rsaKey(rsa), key);
            byte[] nonce = Pair.nonce(key, 1);
            byte[] input = pair.input(key, nonce);
            List<BigInteger> wrong = rsa.wrongCodes(input);
            Pair.check("there are some", wrong.size() >= 6);
            for (BigInteger code : wrong) {
                pair.due(pair.put(input, rsa.signed(code)).redeem(), BAD);
            }
            byte[] salt = some(rsa.salt);
            BigInteger right = Model.number(Model.encode(input, salt, rsa.n.bitLength() - 1));
            pair.due(pair.put(input, rsa.signed(right)).redeem(), 0);
            pair.due(pair.put(pair.ownToken(key, nonce)).redeem(), SPENT);
        }
    }
}
