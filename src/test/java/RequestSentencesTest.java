import java.math.BigInteger;

/** Promise 11: request, sentence by sentence. */
final class RequestSentencesTest extends Sentences {
    /** Two primes whose product has 66 bytes, and begins with one from 128 on. */
    private static final BigInteger FIRST = ONE.shiftLeft(263).add(ONE.shiftLeft(262)).nextProbablePrime();
    private static final BigInteger SECOND = FIRST.nextProbablePrime();

    public static void main(String[] args) {
        run(RequestSentencesTest.class);
    }

    /** A KEY of each kind: of TYPE 1, of TYPE 2 without and with salts. */
    private static void threeKeys(Pair pair) {
        pair.secretKey(BigInteger.valueOf(77));
        pair.rsaKey(PLAIN);
        pair.rsaKey(SALTED);
    }

    @Sentence(of = "Promise 11", says = "Uses the TAPE up:")
    static void requestUsesUp(Pair pair) {
        threeKeys(pair);
        usedUp(pair, pair.put(ones(112)).request(3), NO_KEY);
        usedUp(pair, pair.put(ones(1200)).request(0), REFUSED);
        usedUp(pair, pair.put(ones(1200)).request(1), REFUSED);
        usedUp(pair, pair.wish(0, NONCE, ZERO).request(0), BAD);
        usedUp(pair, pair.wish(1, NONCE, ZERO).request(1), BAD);
        usedUp(pair, pair.wish(0, NONCE, ONE).request(0), 0);
        for (int i = 1; i < 60; i++) {
            usedUp(pair, pair.wish(1, NONCE, ONE).request(1), i);
        }
        usedUp(pair, pair.wish(1, NONCE, ONE).request(1), FULL);
    }

    @Sentence(of = "Promise 11", says = "a NONCE, a DIGEST, then of a KEY of TYPE 1 a blind, a SECRET;")
    static void requestOfType1(Pair pair) {
        pair.secretKey(BigInteger.valueOf(77));
        BigInteger[] blinds = {ONE, TWO, Q.subtract(ONE), Q.subtract(TWO), ONE.shiftLeft(383)};
        byte[] nonce = some(32);
        byte[] digest = some(33);
        for (int i = 0; i < blinds.length; i++) {
            byte[] own = Model.slice(digest, i % 2, 32);
            pair.due(pair.put(nonce, own, Pair.scalar(blinds[i])).request(0), i);
            byte[] input = Model.join(Model.bytes(1, 2), nonce, own, pair.m.keys.get(0).id);
            sameBytes("blinded by it", Model.slice(pair.seen(), 3, 49),
                Model.element(Model.times(blinds[i], Model.hashToGroup(input))));
        }
    }

    @Sentence(of = "Promise 11", says = "of TYPE 2 a salt of S bytes and a blind of LEN bytes:")
    static void requestOfType2(Pair pair) {
        threeKeys(pair);
        byte[] salt = some(48);
        int asking = 0;
        for (int key = 1; key <= 2; key++) {
            Rsa rsa = key == 1 ? PLAIN : SALTED;
            byte[] own = Model.slice(salt, 0, rsa.salt);
            BigInteger code = Model.number(Model.encode(pair.input(key, NONCE), own, rsa.n.bitLength() - 1));
            for (BigInteger blind : new BigInteger[] {ONE, TWO, rsa.n.subtract(ONE), rsa.n.subtract(TWO)}) {
                pair.due(pair.put(NONCE, DIGEST, own, Model.bytes(blind, rsa.len)).request(key), asking);
                sameBytes("blinded by it", Model.slice(pair.seen(), 3, rsa.len),
                    Model.bytes(code.multiply(blind.modPow(rsa.e, rsa.n)).mod(rsa.n), rsa.len));
                asking++;
            }
        }
    }

    @Sentence(of = "Promise 11", says = "an ASKING comes, OUT is its REQUEST: the ASKING's number.")
    static void requestNumbers(Pair pair) {
        threeKeys(pair);
        int[] sizes = {52, 69, 103};
        for (int i = 0; i < 9; i++) {
            int key = i % 3;
            pair.due(pair.wish(key, NONCE, ZERO).request(key), BAD);
            pair.due(pair.wish(key, NONCE, TWO).request(key), i);
            pair.due(pair.count(2), i + 1);
            pair.due(pair.count(3), i + 1);
            pair.due(pair.outs(), sizes[key]);
            sameBytes("how it begins", Model.slice(pair.seen(), 0, 3), pair.head(key));
        }
    }

    @Sentence(of = "Promise 11", says = "NO_KEY: there is no such KEY, LIVE;")
    static void requestWithoutKey(Pair pair) {
        pair.due(pair.put(ones(112)).request(0), NO_KEY);
        threeKeys(pair);
        for (int key : new int[] {-1, 3, 4, 6, MIN, MAX}) {
            pair.due(pair.put(ones(112)).request(key), NO_KEY);
            pair.due(pair.put(ones(130)).request(key), NO_KEY);
            pair.due(pair.put(ones(212)).request(key), NO_KEY);
        }
        pair.due(pair.put(ones(112)).request(0), 0);
        pair.due(pair.put(ones(212)).request(2), 1);
        pair.retire(0);
        pair.retire(2);
        pair.due(pair.put(ones(112)).request(0), NO_KEY);
        pair.due(pair.put(ones(212)).request(2), NO_KEY);
        pair.due(pair.put(ones(130)).request(1), 2);
    }

    @Sentence(of = "Promise 11", says = "REFUSED: other lengths;")
    static void requestOfOtherLengths(Pair pair) {
        threeKeys(pair);
        int[] due = {112, 130, 212};
        for (int key = 0; key < 3; key++) {
            for (int size : new int[] {0, 32, 63, 64, 65, 112, 130, 164, 178, 212, 1200}) {
                if (size != due[key]) {
                    pair.due(pair.put(ones(size)).request(key), REFUSED);
                }
            }
            pair.due(pair.put(ones(due[key] - 1)).request(key), REFUSED);
            pair.due(pair.put(ones(due[key] + 1)).request(key), REFUSED);
            pair.due(pair.put(ones(due[key])).request(key), key);
        }
    }

    @Sentence(of = "Promise 11", says = "FULL: there are 60;")
    static void requestFull(Pair pair) {
        threeKeys(pair);
        for (int i = 0; i < 59; i++) {
            pair.due(pair.put(ones(130)).request(1), i);
        }
        pair.due(pair.put(ones(112)).request(0), 59);
        byte[] answer = pair.answerTo(3);
        pair.due(pair.put(ones(112)).request(0), FULL);
        pair.due(pair.put(ones(130)).request(1), FULL);
        pair.due(pair.put(ones(212)).request(2), FULL);
        pair.due(pair.put(answer).finalize(59), 146);
        pair.due(pair.count(3), 59);
        pair.due(pair.put(ones(112)).request(0), FULL);
        pair.due(pair.put(ones(130)).request(1), FULL);
        pair.due(pair.count(2), 60);
        pair.due(pair.put(ones(66)).finalize(60), THROWN);
    }

    private static void blinds(Pair pair, int key, BigInteger[] wrong, BigInteger[] right) {
        for (BigInteger blind : wrong) {
            pair.due(pair.wish(key, NONCE, blind).request(key), BAD);
        }
        int asking = pair.count(2);
        for (int i = 0; i < right.length; i++) {
            pair.due(pair.wish(key, NONCE, right[i]).request(key), asking + i);
        }
    }

    @Sentence(of = "Promise 11", says = "BAD: a blind that is none")
    static void requestByNoSecret(Pair pair) {
        pair.secretKey(BigInteger.valueOf(77));
        blinds(pair, 0, new BigInteger[] {ZERO, Q, Q.add(ONE), Q.add(TWO), MOST},
            new BigInteger[] {ONE, TWO, Q.subtract(TWO), Q.subtract(ONE)});
    }

    @Sentence(of = "Promise 11", says = "(TYPE 2: 0, not below N,")
    static void requestByNoNumberBelowN(Pair pair) {
        pair.rsaKey(PLAIN);
        pair.rsaKey(SALTED);
        pair.rsaKey(LOW);
        for (int key = 0; key < 3; key++) {
            Rsa rsa = new Rsa[] {PLAIN, SALTED, LOW}[key];
            BigInteger most = ONE.shiftLeft(8 * rsa.len).subtract(ONE);
            blinds(pair, key, new BigInteger[] {ZERO, rsa.n, rsa.n.add(ONE), rsa.n.add(TWO), most},
                new BigInteger[] {ONE, TWO, rsa.n.subtract(TWO), rsa.n.subtract(ONE)});
        }
        // Without the bound this would be a blind as good as 2 is.
        pair.due(pair.wish(2, NONCE, LOW.n.add(TWO)).request(2), BAD);
    }

    @Sentence(of = "Promise 11", says = "or not coprime to it),")
    static void requestByNoCoprime(Pair pair) {
        BigInteger n = FIRST.multiply(SECOND);
        pair.due(pair.put(Rsa.tape(n, 3, ONE, 0, 66)).key(2), 0);
        BigInteger[] wrong = {FIRST, SECOND, FIRST.shiftLeft(1), SECOND.shiftLeft(200), n.subtract(FIRST),
            n.subtract(SECOND), FIRST.multiply(FIRST).mod(n)};
        BigInteger[] right = {FIRST.subtract(ONE), FIRST.add(ONE), SECOND.subtract(ONE), SECOND.add(ONE),
            FIRST.add(SECOND), n.subtract(FIRST).add(ONE), n.subtract(ONE)};
        blinds(pair, 0, wrong, right);
    }

    @Sentence(of = "Promise 11", says = "or m is not coprime to N.")
    static void requestOfNoCoprime(Pair pair) {
        BigInteger three = BigInteger.valueOf(3);
        BigInteger n = ONE.shiftLeft(526).nextProbablePrime().multiply(three);
        pair.due(pair.put(Rsa.tape(n, 65537, ONE, 0, 66)).key(2), 0);
        int[] seen = new int[3];
        int asking = 0;
        for (int i = 0; i < 24; i++) {
            byte[] nonce = Pair.nonce(i, 1);
            BigInteger code = Model.number(Model.encode(pair.input(0, nonce), new byte[0], n.bitLength() - 1));
            int rest = code.mod(three).intValue();
            seen[rest]++;
            pair.due(pair.wish(0, nonce, ONE).request(0), rest == 0 ? BAD : asking);
            asking += rest == 0 ? 0 : 1;
        }
        Pair.check("each kind was there", seen[0] > 0 && seen[1] > 0 && seen[2] > 0);
        pair.due(pair.count(2), asking);
    }
}
