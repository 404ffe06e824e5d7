import java.math.BigInteger;

/** Promises 12 and 13: issue and issueMany, sentence by sentence. */
final class IssueSentencesTest extends Sentences {
    private static final BigInteger SECRET = BigInteger.valueOf(123456789);
    private static final byte[] R = Pair.scalar(11);

    public static void main(String[] args) {
        run(IssueSentencesTest.class);
    }

    /** KEY 0 is of TYPE 1, KEYS 1 and 2 of TYPE 2. */
    private static void threeKeys(Pair pair) {
        pair.secretKey(SECRET);
        pair.rsaKey(PLAIN);
        pair.rsaKey(SALTED);
    }

    private static byte[] withLast(int type, int last) {
        return new byte[] {0, (byte) type, (byte) last};
    }

    @Sentence(of = "Promise 12", says = "Uses the TAPE up:")
    static void issueUsesUp(Pair pair) {
        threeKeys(pair);
        byte[] head = pair.head(0);
        usedUp(pair, pair.put(ones(2)).issue(), REFUSED);
        usedUp(pair, pair.put(ones(1200)).issue(), REFUSED);
        usedUp(pair, pair.put(Pair.bent(head, 2), Elements.of(5), R).issue(), NO_KEY);
        usedUp(pair, pair.put(head, Elements.of(5)).issue(), REFUSED);
        usedUp(pair, pair.put(head, Elements.none(), R).issue(), BAD);
        usedUp(pair, pair.put(head, Elements.of(5), R).issue(), 145);
        usedUp(pair, pair.put(pair.head(1), Model.bytes(PLAIN.n, 66)).issue(), BAD);
        usedUp(pair, pair.put(pair.head(1), ones(66)).issue(), 66);
    }

    @Sentence(of = "Promise 12",
        says = "a REQUEST, of TYPE 1 a SECRET behind it, for the PROOF: OUT is the ANSWER: how many bytes.")
    static void issueAnswers(Pair pair) {
        threeKeys(pair);
        pair.rsaKey(LARGEST);
        pair.due(pair.put(pair.head(0), Elements.of(5), R).issue(), 145);
        sameBytes("of TYPE 1", pair.seen(), Model.evaluate(SECRET, java.util.List.of(
            Model.times(BigInteger.valueOf(5), Model.G)), BigInteger.valueOf(11)));
        Rsa[] rsas = {PLAIN, SALTED, LARGEST};
        for (int i = 0; i < 3; i++) {
            Rsa rsa = rsas[i];
            pair.due(pair.put(pair.head(i + 1), Model.bytes(SECRET, rsa.len)).issue(), rsa.len);
            sameBytes("of TYPE 2", pair.seen(), Model.bytes(SECRET.modPow(rsa.d, rsa.n), rsa.len));
        }
    }

    @Sentence(of = "Promise 12", says = "REFUSED: shorter than three bytes,")
    static void issueOfTwoBytes(Pair pair) {
        pair.due(pair.issue(), REFUSED);
        for (int type = 1; type <= 2; type++) {
            byte[] head = withLast(type, 7);
            for (int size = 0; size < 3; size++) {
                pair.due(pair.put(Model.slice(head, 0, size)).issue(), REFUSED);
            }
            pair.due(pair.put(head).issue(), NO_KEY);
            pair.due(pair.put(head, new byte[1]).issue(), NO_KEY);
        }
    }

    @Sentence(of = "Promise 12", says = "or another TYPE;")
    static void issueOfAnotherType(Pair pair) {
        threeKeys(pair);
        byte[] last = {pair.head(0)[2]};
        int[] others = {0, 3, 4, 0x0081, 0x0082, 0x00ff, 0x0100, 0x0101, 0x0102, 0x0201, 0x8001, 0x8002, 0xff01};
        for (int type : others) {
            pair.due(pair.put(Model.bytes(type, 2), last, Elements.of(5), R).issue(), REFUSED);
            pair.due(pair.put(Model.bytes(type, 2), last).issue(), REFUSED);
        }
        pair.due(pair.put(Model.bytes(1, 2), last, Elements.of(5), R).issue(), 145);
        pair.due(pair.put(pair.head(1), ones(66)).issue(), 66);
    }

    @Sentence(of = "Promise 12", says = "NO_KEY: no LIVE KEY of the TYPE has that last byte of its KEY ID")
    static void issueWithoutKey(Pair pair) {
        pair.due(pair.put(withLast(1, 0), Elements.of(5), R).issue(), NO_KEY);
        pair.secretKey(SECRET);
        pair.rsaKey(PLAIN);
        for (int key = 0; key < 2; key++) {
            byte[] head = pair.head(key);
            byte[] rest = key == 0 ? Model.join(Elements.of(5), R) : ones(66);
            for (int away : new int[] {-128, -1, 1, 127}) {
                pair.due(pair.put(withLast(key + 1, head[2] + away), rest).issue(), NO_KEY);
            }
            pair.due(pair.put(withLast(2 - key, head[2]), rest).issue(), NO_KEY);
            pair.due(pair.put(head, rest).issue(), key == 0 ? 145 : 66);
            pair.retire(key);
            pair.due(pair.put(head, rest).issue(), NO_KEY);
        }
        // Another byte of the KEY ID than the last is none to go by.
        Pair other = new Pair("other bytes of a KEY ID");
        other.secretKey(SECRET);
        byte[] id = other.m.keys.get(0).id;
        for (int i : new int[] {0, 30}) {
            Pair.check("another byte", id[i] != id[31]);
            other.due(other.put(withLast(1, id[i]), Elements.of(5), R).issue(), NO_KEY);
        }
    }

    /** Two numbers up to 256 whose KEYS of TYPE 1 have IDS with the same last byte. */
    private static int[] alike() {
        int[] by = new int[256];
        for (int k = 1; k <= 257; k++) {
            int last = Model.h2(Elements.of(k))[31] & 255;
            if (by[last] != 0) {
                return new int[] {by[last], k};
            }
            by[last] = k;
        }
        throw new IllegalStateException("there must be two of 257");
    }

    @Sentence(of = "Promise 12", says = "(of several the first one is taken);")
    static void issueByTheFirst(Pair pair) {
        int[] two = alike();
        pair.secretKey(BigInteger.valueOf(two[1]));
        pair.secretKey(BigInteger.valueOf(two[0]));
        pair.secretKey(BigInteger.valueOf(two[1]));
        byte[] head = pair.head(0);
        int[] by = {two[1], two[0], two[1]};
        for (int key = 0; key < 3; key++) {
            pair.due(pair.put(head, Elements.of(5), R).issue(), 145);
            sameBytes("by KEY " + key, Model.slice(pair.seen(), 0, 49), Elements.of(5L * by[key]));
            pair.due(pair.put(head, Elements.of(5), Elements.of(6), R).issueMany(2), 194);
            sameBytes("by KEY " + key, Model.slice(pair.seen(), 49, 49), Elements.of(6L * by[key]));
            pair.retire(key);
        }
        pair.due(pair.put(head, Elements.of(5), R).issue(), NO_KEY);
        lengthsOfTheFirst();
    }

    /** Two KEYS of TYPE 2 that end alike, with moduli of 66 and 67 bytes: the first one tells the length. */
    private static void lengthsOfTheFirst() {
        Pair pair = new Pair("Promise 12, two lengths");
        pair.rsaKey(PLAIN);
        byte[] head = pair.head(0);
        BigInteger n = modulus(67, 200);
        while (Model.h2(Model.join(Model.bytes(n, 67), Model.hex("00000300")))[31] != head[2]) {
            n = n.add(TWO);
        }
        pair.due(pair.put(Rsa.tape(n, 3, ONE, 0, 67)).key(2), 1);
        sameBytes("they end alike", pair.head(1), head);
        pair.due(pair.put(head, Model.bytes(ONE, 67)).issue(), REFUSED);
        pair.due(pair.put(head, Model.bytes(ONE, 66)).issue(), 66);
        pair.retire(0);
        pair.due(pair.put(head, Model.bytes(ONE, 66)).issue(), REFUSED);
        pair.due(pair.put(head, Model.bytes(ONE, 67)).issue(), 67);
    }

    @Sentence(of = "Promise 12", says = "REFUSED: other lengths;")
    static void issueOfOtherLengths(Pair pair) {
        threeKeys(pair);
        byte[] head = pair.head(0);
        byte[] all = Model.join(Elements.of(5), ones(200));
        for (int size : new int[] {0, 1, 48, 49, 50, 96, 98, 146, 194}) {
            pair.due(pair.put(head, Model.slice(all, 0, size)).issue(), REFUSED);
        }
        pair.due(pair.put(head, Model.slice(all, 0, 97)).issue(), 145);
        int[] lens = {66, 100};
        for (int i = 0; i < 2; i++) {
            for (int size : new int[] {0, 1, 49, lens[i] - 1, lens[i] + 1, lens[i] + 48, lens[1 - i]}) {
                pair.due(pair.put(pair.head(i + 1), ones(size)).issue(), REFUSED);
            }
            pair.due(pair.put(pair.head(i + 1), ones(lens[i])).issue(), lens[i]);
        }
    }

    @Sentence(of = "Promise 12", says = "BAD: an ELEMENT that is none,")
    static void issueOfNoElement(Pair pair) {
        pair.secretKey(SECRET);
        byte[] head = pair.head(0);
        for (byte[] wrong : Elements.wrong()) {
            pair.due(pair.put(head, wrong, R).issue(), BAD);
        }
        for (int first = 2; first <= 3; first++) {
            pair.due(pair.put(head, Elements.of(first, Elements.next(ZERO, 1, true)), R).issue(), 145);
            pair.due(pair.put(head, Elements.of(first, Elements.next(P.subtract(ONE), -1, true)), R).issue(), 145);
        }
    }

    @Sentence(of = "Promise 12", says = "the SECRET is none;")
    static void issueByNoSecret(Pair pair) {
        pair.secretKey(SECRET);
        byte[] head = pair.head(0);
        for (BigInteger r : new BigInteger[] {ZERO, Q, Q.add(ONE), MOST}) {
            pair.due(pair.put(head, Elements.of(5), Pair.scalar(r)).issue(), BAD);
        }
        for (BigInteger r : new BigInteger[] {ONE, TWO, Q.subtract(TWO), Q.subtract(ONE), SECRET}) {
            pair.due(pair.put(head, Elements.of(5), Pair.scalar(r)).issue(), 145);
        }
    }

    @Sentence(of = "Promise 12", says = "x is not below N,")
    static void issueNotBelowN(Pair pair) {
        Rsa[] rsas = {PLAIN, SALTED, LOW};
        for (int key = 0; key < 3; key++) {
            Rsa rsa = rsas[key];
            pair.rsaKey(rsa);
            byte[] head = pair.head(key);
            BigInteger most = ONE.shiftLeft(8 * rsa.len).subtract(ONE);
            for (BigInteger x : new BigInteger[] {rsa.n, rsa.n.add(ONE), rsa.n.add(TWO), most}) {
                pair.due(pair.put(head, Model.bytes(x, rsa.len)).issue(), BAD);
            }
            for (BigInteger x : new BigInteger[] {ZERO, ONE, TWO, rsa.n.subtract(TWO), rsa.n.subtract(ONE)}) {
                pair.due(pair.put(head, Model.bytes(x, rsa.len)).issue(), rsa.len);
            }
        }
    }

    @Sentence(of = "Promise 12", says = "or signing does not give x by E.")
    static void issueByWrongD(Pair pair) {
        BigInteger[] ds = {PLAIN.d.subtract(ONE), PLAIN.d, PLAIN.d.add(ONE)};
        for (int key = 0; key < 3; key++) {
            pair.put(PLAIN.withD(ds[key]).tape()).key(2);
            byte[] head = pair.head(key);
            int due = key == 1 ? 66 : BAD;
            pair.due(pair.put(head, Model.bytes(TWO, 66)).issue(), due);
            pair.due(pair.put(head, Model.bytes(SECRET, 66)).issue(), due);
            // Any D gives these: 0 and 1 are what they are, to whatever power.
            pair.due(pair.put(head, Model.bytes(ZERO, 66)).issue(), 66);
            pair.due(pair.put(head, Model.bytes(ONE, 66)).issue(), 66);
            pair.retire(key);
        }
    }

    /** So many ELEMENTS, one behind the other. */
    private static byte[] many(int count) {
        byte[] all = new byte[0];
        for (int i = 0; i < count; i++) {
            all = Model.join(all, Elements.of(10 + i));
        }
        return all;
    }

    @Sentence(of = "Promise 13", says = "Uses the TAPE up:")
    static void issueManyUsesUp(Pair pair) {
        threeKeys(pair);
        byte[] head = pair.head(0);
        usedUp(pair, pair.put(ones(2)).issueMany(1), REFUSED);
        usedUp(pair, pair.put(head, many(2), R).issueMany(0), REFUSED);
        usedUp(pair, pair.put(head, many(2), R).issueMany(9), REFUSED);
        usedUp(pair, pair.put(Pair.bent(head, 2), many(2), R).issueMany(2), NO_KEY);
        usedUp(pair, pair.put(head, many(2), R).issueMany(3), REFUSED);
        usedUp(pair, pair.put(head, many(2), Pair.scalar(0)).issueMany(2), BAD);
        usedUp(pair, pair.put(head, many(2), R).issueMany(2), 194);
    }

    @Sentence(of = "Promise 13",
        says = "like issue() of TYPE 1, but with so many blinded ELEMENTS behind the three bytes,")
    static void issueManyLikeIssue(Pair pair) {
        pair.due(pair.put(withLast(1, 0), many(1), R).issueMany(1), NO_KEY);
        threeKeys(pair);
        byte[] head = pair.head(0);
        for (int size = 0; size < 3; size++) {
            pair.due(pair.put(Model.slice(head, 0, size)).issueMany(1), REFUSED);
        }
        for (int type : new int[] {0, 2, 3, 0x0101, 0x0081, 0x8001}) {
            pair.due(pair.put(Model.bytes(type, 2), Model.slice(head, 2, 1), many(2), R).issueMany(2), REFUSED);
        }
        pair.due(pair.put(pair.head(1), ones(66)).issueMany(1), REFUSED);
        pair.due(pair.put(withLast(1, head[2] + 1), many(2), R).issueMany(2), NO_KEY);
        for (int count = 1; count <= 8; count++) {
            byte[] all = Model.join(many(count), R);
            for (int size : new int[] {0, all.length - 49, all.length - 1}) {
                pair.due(pair.put(head, Model.slice(all, 0, size)).issueMany(count), REFUSED);
            }
            pair.due(pair.put(head, all, new byte[1]).issueMany(count), REFUSED);
            pair.due(pair.put(head, all, new byte[49]).issueMany(count), REFUSED);
            pair.due(pair.put(head, all).issueMany(count), 49 * count + 96);
            for (int i = 0; i < count; i++) {
                sameBytes("ELEMENT " + i, Model.slice(pair.seen(), 49 * i, 49), Model.element(
                    Model.times(SECRET.multiply(BigInteger.valueOf(10 + i)), Model.G)));
            }
        }
        pair.retire(0);
        pair.due(pair.put(head, many(2), R).issueMany(2), NO_KEY);
    }

    /** Each place of eight has once bytes that are no ELEMENT. */
    @Sentence(of = "Promise 13", says = "so many blinded ELEMENTS behind the three bytes,")
    static void issueManyOfNoElement(Pair pair) {
        pair.secretKey(SECRET);
        byte[] head = pair.head(0);
        byte[] right = many(8);
        byte[][] wrong = Elements.wrong();
        for (int i = 0; i < 8; i++) {
            byte[] bent = right.clone();
            System.arraycopy(wrong[i], 0, bent, 49 * i, 49);
            pair.due(pair.put(head, bent, R).issueMany(8), BAD);
        }
        for (BigInteger r : new BigInteger[] {ZERO, Q, MOST}) {
            pair.due(pair.put(head, right, Pair.scalar(r)).issueMany(8), BAD);
        }
        pair.due(pair.put(head, right, Pair.scalar(ONE)).issueMany(8), 488);
        pair.due(pair.put(head, right, Pair.scalar(Q.subtract(ONE))).issueMany(8), 488);
    }

    @Sentence(of = "Promise 13", says = "and one PROOF for all.")
    static void issueManyOneProof(Pair pair) {
        pair.secretKey(SECRET);
        byte[] head = pair.head(0);
        pair.due(pair.put(head, Elements.of(5), R).issue(), 145);
        byte[] one = pair.seen();
        pair.due(pair.put(head, Elements.of(5), R).issueMany(1), 145);
        sameBytes("of one it is what issue() gives", pair.seen(), one);
        for (int count : new int[] {2, 7, 8}) {
            java.util.List<Model.Spot> spots = new java.util.ArrayList<>();
            for (int i = 0; i < count; i++) {
                spots.add(Model.spot(Elements.of(10 + i)));
            }
            pair.due(pair.put(head, many(count), R).issueMany(count), 49 * count + 96);
            sameBytes("of " + count, pair.seen(), Model.evaluate(SECRET, spots, BigInteger.valueOf(11)));
        }
    }

    @Sentence(of = "Promise 13", says = "REFUSED also: many is not 1 to 8.")
    static void issueManyOfNoneOrNine(Pair pair) {
        pair.secretKey(SECRET);
        byte[] head = pair.head(0);
        pair.due(pair.put(head, R).issueMany(0), REFUSED);
        pair.due(pair.put(head, many(9), R).issueMany(9), REFUSED);
        pair.due(pair.put(head, many(10), R).issueMany(10), REFUSED);
        pair.due(pair.put(head, ones(0)).issueMany(-1), REFUSED);
        for (int count : new int[] {-1, 0, 9, 10, 257, MIN, MIN + 1, MAX}) {
            pair.due(pair.put(head, many(1), R).issueMany(count), REFUSED);
            pair.due(pair.put(withLast(1, head[2] + 1), many(1), R).issueMany(count), REFUSED);
        }
        pair.due(pair.put(head, many(1), R).issueMany(1), 145);
        pair.due(pair.put(head, many(8), R).issueMany(8), 488);
    }
}
