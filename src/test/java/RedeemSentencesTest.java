import java.math.BigInteger;

/** Promise 16: redeem, sentence by sentence. */
final class RedeemSentencesTest extends Sentences {
    private static final BigInteger SECRET = BigInteger.valueOf(55555);

    public static void main(String[] args) {
        run(RedeemSentencesTest.class);
    }

    /** KEY 0 is of TYPE 1, KEYS 1 to 3 of TYPE 2. */
    private static void fourKeys(Pair pair) {
        pair.secretKey(SECRET);
        pair.rsaKey(PLAIN);
        pair.rsaKey(SALTED);
        pair.rsaKey(LOW);
    }

    @Sentence(of = "Promise 16", says = "Uses the TAPE up:")
    static void redeemUsesUp(Pair pair) {
        fourKeys(pair);
        byte[] token = pair.ownToken(0, NONCE);
        byte[] next = pair.ownToken(1, Pair.nonce(6, 6));
        usedUp(pair, pair.put(ones(97)).redeem(), REFUSED);
        usedUp(pair, pair.put(ones(1200)).redeem(), NO_KEY);
        usedUp(pair, pair.put(token, ones(1)).redeem(), REFUSED);
        usedUp(pair, pair.put(Pair.bent(token, 98)).redeem(), BAD);
        usedUp(pair, pair.put(token).redeem(), 0);
        usedUp(pair, pair.put(token).redeem(), SPENT);
        pair.cut(0);
        usedUp(pair, pair.put(next).redeem(), DOWN);
        usedUp(pair, pair.put(ones(1200)).redeem(), DOWN);
    }

    @Sentence(of = "Promise 16", says = "a TOKEN is redeemed: 0.")
    static void redeemOfEachKind(Pair pair) {
        fourKeys(pair);
        pair.rsaKey(LARGEST);
        pair.digest();
        for (int key = 0; key < 5; key++) {
            byte[] token = pair.ownToken(key, Pair.nonce(key, 1));
            pair.due(token.length, new int[] {146, 164, 198, 164, 354}[key]);
            pair.due(pair.put(token).redeem(), 0);
            pair.due(pair.count(9), key + 1);
            pair.due(pair.count(4), key + 1);
        }
        sameBytes("OUT stays", pair.seen(), DIGEST);
    }

    @Sentence(of = "Promise 16", says = "DOWN;")
    static void redeemWhileDown(Pair pair) {
        fourKeys(pair);
        byte[] spent = pair.ownToken(0, Pair.nonce(0, 1));
        byte[] token = pair.ownToken(0, NONCE);
        byte[][] others = {new byte[0], ones(97), ones(98), Model.slice(token, 0, 145), Pair.bent(token, 98), spent,
            token};
        int[] due = {REFUSED, REFUSED, NO_KEY, REFUSED, BAD, SPENT, 0};
        pair.due(pair.put(spent).redeem(), 0);
        pair.due(pair.cut(0), true);
        // Not yet: so far no WRITE would have come.
        for (int i = 0; i < 6; i++) {
            pair.due(pair.put(others[i]).redeem(), due[i]);
            pair.due(pair.count(6), 0);
        }
        pair.due(pair.put(token).redeem(), DOWN);
        for (byte[] one : others) {
            pair.due(pair.put(one).redeem(), DOWN);
            pair.due(pair.count(6), 1);
        }
        pair.due(pair.power(), 1);
        for (int i = 0; i < 7; i++) {
            pair.due(pair.put(others[i]).redeem(), due[i]);
        }
    }

    @Sentence(of = "Promise 16", says = "REFUSED: shorter than 98 bytes;")
    static void redeemOf97Bytes(Pair pair) {
        pair.due(pair.redeem(), REFUSED);
        for (int size : new int[] {1, 2, 96, 97}) {
            pair.due(pair.put(ones(size)).redeem(), REFUSED);
        }
        pair.due(pair.put(ones(98)).redeem(), NO_KEY);
        pair.due(pair.put(ones(99)).redeem(), NO_KEY);
        fourKeys(pair);
        for (int key = 0; key < 4; key++) {
            byte[] token = pair.ownToken(key, NONCE);
            pair.due(pair.put(Model.slice(token, 0, 97)).redeem(), REFUSED);
            // Of a KEY that is there 98 bytes are not enough; of one that is not, that comes first.
            pair.due(pair.put(Model.slice(token, 0, 98)).redeem(), REFUSED);
            pair.due(pair.put(Model.slice(Pair.bent(token, 97), 0, 98)).redeem(), NO_KEY);
        }
    }

    @Sentence(of = "Promise 16", says = "NO_KEY: no LIVE KEY has its KEY ID and TYPE;")
    static void redeemWithoutKey(Pair pair) {
        pair.due(pair.put(ones(146)).redeem(), NO_KEY);
        fourKeys(pair);
        for (int key = 0; key < 4; key++) {
            byte[] token = pair.ownToken(key, Pair.nonce(key, 1));
            for (int at : new int[] {66, 67, 81, 96, 97}) {
                pair.due(pair.put(Pair.bent(token, at)).redeem(), NO_KEY);
            }
            int[] types = {0, key == 0 ? 2 : 1, 3, 0x0101, 0x0102, 0x8001, 0x8002, 0x0081, 0x0082};
            for (int type : types) {
                byte[] other = Model.join(Model.bytes(type, 2), Model.slice(token, 2, token.length - 2));
                pair.due(pair.put(other).redeem(), NO_KEY);
            }
            pair.due(pair.put(token).redeem(), 0);
            pair.retire(key);
            pair.due(pair.put(token).redeem(), NO_KEY);
            pair.due(pair.put(pair.ownToken(key, NONCE)).redeem(), NO_KEY);
        }
        // The same secret once more: a KEY of the same ID that is LIVE.
        pair.due(pair.secretKey(SECRET), 4);
        pair.due(pair.put(pair.ownToken(0, Pair.nonce(0, 1))).redeem(), SPENT);
        pair.due(pair.put(pair.ownToken(0, NONCE)).redeem(), 0);
    }

    @Sentence(of = "Promise 16", says = "REFUSED: other lengths;")
    static void redeemOfOtherLengths(Pair pair) {
        fourKeys(pair);
        int[] due = {146, 164, 198, 164};
        for (int key = 0; key < 4; key++) {
            byte[] token = pair.ownToken(key, Pair.nonce(key, 1));
            for (int size : new int[] {98, 99, 145, 146, 147, 163, 164, 165, 197, 198, 199, 1200}) {
                if (size != due[key]) {
                    pair.due(pair.put(java.util.Arrays.copyOf(token, size)).redeem(), REFUSED);
                }
            }
            pair.due(pair.put(token).redeem(), 0);
        }
    }

    @Sentence(of = "Promise 16", says = "BAD: the AUTHENTICATOR is not right;")
    static void redeemOfWrongAuthenticator(Pair pair) {
        fourKeys(pair);
        Rsa[] rsas = {null, PLAIN, SALTED, LOW};
        for (int key = 0; key < 4; key++) {
            byte[] token = pair.ownToken(key, Pair.nonce(key, 1));
            int last = token.length - 1;
            // A bit of the NONCE, of the DIGEST, of the first and the last byte of the AUTHENTICATOR.
            for (int at : new int[] {2, 33, 34, 65, 98, 99, last - 1, last}) {
                pair.due(pair.put(Pair.bent(token, at)).redeem(), BAD);
            }
            byte[] input = Model.slice(token, 0, 98);
            pair.due(pair.put(input, new byte[last - 97]).redeem(), BAD);
            if (key > 0) {
                BigInteger n = rsas[key].n;
                BigInteger s = Model.number(Model.slice(token, 98, last - 97));
                BigInteger[] wrong = {s.subtract(ONE), s.add(ONE), n.subtract(s), n.subtract(ONE), n};
                for (BigInteger one : wrong) {
                    pair.due(pair.put(input, Model.bytes(one, last - 97)).redeem(), BAD);
                }
            }
            if (key == 3) {
                BigInteger more = LOW.n.add(Model.number(Model.slice(token, 98, 66)));
                pair.due(pair.put(input, Model.bytes(more, 66)).redeem(), BAD);
            }
            pair.due(pair.count(9), key);
            pair.due(pair.put(token).redeem(), 0);
        }
        // By a KEY other than the one whose ID it has.
        pair.secretKey(SECRET.add(ONE));
        byte[] input = pair.input(4, NONCE);
        pair.due(pair.put(input, Model.output(input, Model.times(SECRET, Model.hashToGroup(input)))).redeem(), BAD);
        pair.due(pair.put(pair.ownToken(4, NONCE)).redeem(), 0);
    }

    @Sentence(of = "Promise 16", says = "SPENT;")
    static void redeemTwice(Pair pair) {
        fourKeys(pair);
        byte[] token = pair.ownToken(0, NONCE);
        pair.due(pair.put(token).redeem(), 0);
        for (int i = 0; i < 3; i++) {
            pair.due(pair.put(token).redeem(), SPENT);
            pair.due(pair.count(5), 1);
            pair.due(pair.count(9), 1);
        }
        // The NONCE alone counts: other KEYS cannot spend it again, and one that differs in a bit is another.
        for (int key = 1; key < 4; key++) {
            pair.due(pair.put(pair.ownToken(key, NONCE)).redeem(), SPENT);
        }
        for (int at : new int[] {0, 3, 4, 31}) {
            byte[] other = pair.ownToken(at % 2, Pair.bent(NONCE, at));
            pair.due(pair.put(other).redeem(), 0);
            pair.due(pair.put(other).redeem(), SPENT);
        }
        pair.due(pair.power(), 5);
        pair.due(pair.put(token).redeem(), SPENT);
    }

    @Sentence(of = "Promise 16", says = "FULL: no SLOT is free.")
    static void redeemFull(Pair pair) {
        pair.rsaKey(PLAIN);
        for (int i = 0; i < 112; i++) {
            if (i != 59) {
                pair.due(pair.put(pair.ownToken(0, Pair.nonce(i, i))).redeem(), 0);
            }
        }
        // The one SLOT that is free, 59, is the last that is looked at from 60 on.
        byte[] last = pair.ownToken(0, Pair.nonce(60, 111));
        byte[] none = pair.ownToken(0, Pair.nonce(60, 112));
        pair.due(pair.count(4), 111);
        pair.due(pair.put(last).redeem(), 0);
        pair.due(pair.disk(4 * 512 + 3 * 36 + 35), 111);
        pair.due(pair.count(4), 112);
        for (int first : new int[] {0, 59, 60, 111}) {
            pair.due(pair.put(pair.ownToken(0, Pair.nonce(first, 112))).redeem(), FULL);
        }
        pair.due(pair.put(last).redeem(), SPENT);
        pair.due(pair.put(pair.ownToken(0, Pair.nonce(0, 0))).redeem(), SPENT);
        pair.due(pair.put(Pair.bent(none, 98)).redeem(), BAD);
        pair.due(pair.count(5), 112);
        pair.due(pair.count(9), 112);
        pair.due(pair.power(), 112);
        pair.due(pair.put(none).redeem(), FULL);
    }
}
