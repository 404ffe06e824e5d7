import java.math.BigInteger;
import java.util.ArrayList;
import java.util.List;

/** Promises 14 and 15: finalize and finalizeMany, sentence by sentence. */
final class FinalizeSentencesTest extends Sentences {
    private static final BigInteger SECRET = BigInteger.valueOf(987654321);
    private static final BigInteger BLIND = BigInteger.valueOf(13);

    public static void main(String[] args) {
        run(FinalizeSentencesTest.class);
    }

    /** An ASKING of a KEY, and its ANSWER. */
    private static byte[] askOf(Pair pair, int key) {
        pair.wish(key, NONCE, BLIND).request(key);
        return pair.answerTo(17);
    }

    /** So many ASKINGS of KEY 0 from here on, and the ANSWER to all of them. */
    private static byte[] askMany(Pair pair, int many) {
        byte[] asked = pair.head(0);
        for (int i = 0; i < many; i++) {
            pair.wish(0, Pair.nonce(i, many), BigInteger.valueOf(3 + i)).request(0);
            asked = Model.join(asked, Model.slice(pair.left(), 3, 49));
        }
        pair.put(asked, Pair.scalar(17)).issueMany(many);
        return pair.left();
    }

    /** The same ANSWER with another number of 48 bytes at this place. */
    private static byte[] withNumber(byte[] answer, int at, BigInteger number) {
        byte[] made = answer.clone();
        System.arraycopy(Pair.scalar(number), 0, made, at, 48);
        return made;
    }

    private static BigInteger numberAt(byte[] answer, int at) {
        return Model.number(Model.slice(answer, at, 48));
    }

    /**
     * An ANSWER to these blinded ELEMENTS whose evaluated ones begin with other bytes, and whose PROOF is right for
     * just these bytes: only that they are no ELEMENTS can be held against it.
     */
    private static byte[] provedWith(List<byte[]> asked, int[] firsts) {
        List<Model.Spot> c = new ArrayList<>();
        List<Model.Spot> d = new ArrayList<>();
        List<byte[]> told = new ArrayList<>();
        byte[] all = new byte[0];
        for (int i = 0; i < firsts.length; i++) {
            c.add(Model.spot(asked.get(i)));
            d.add(Model.times(SECRET, c.get(i)));
            told.add(Elements.of(firsts[i], d.get(i).x()));
            all = Model.join(all, told.get(i));
        }
        Model.Spot a = Model.times(SECRET, Model.G);
        List<BigInteger> weights = Model.weightsOfBytes(a, asked, told);
        Model.Spot m = Model.sum(weights, c);
        BigInteger r = BigInteger.valueOf(17);
        BigInteger challenge = Model.challenge(a, m, Model.sum(weights, d), Model.times(r, Model.G), Model.times(r, m));
        return Model.join(all, Pair.scalar(challenge), Pair.scalar(r.subtract(challenge.multiply(SECRET)).mod(Q)));
    }

    /** What an ELEMENT evaluated of this one begins with. */
    private static int firstOf(byte[] asked) {
        return Model.element(Model.times(SECRET, Model.spot(asked)))[0];
    }

    @Sentence(of = "Promise 14", says = "Uses the TAPE up:")
    static void finalizeUsesUp(Pair pair) {
        usedUp(pair, pair.put(ones(1200)).finalize(0), THROWN);
        pair.secretKey(SECRET);
        pair.rsaKey(PLAIN);
        byte[] answer = askOf(pair, 0);
        byte[] signed = askOf(pair, 1);
        usedUp(pair, pair.put(ones(145)).finalize(2), THROWN);
        usedUp(pair, pair.put(ones(145)).finalize(-1), THROWN);
        usedUp(pair, pair.put(ones(1200)).finalize(0), REFUSED);
        usedUp(pair, pair.put(ones(145)).finalize(0), BAD);
        usedUp(pair, pair.put(ones(66)).finalize(1), BAD);
        usedUp(pair, pair.put(answer).finalize(0), 146);
        usedUp(pair, pair.put(signed).finalize(1), 164);
        usedUp(pair, pair.put(answer).finalize(0), THROWN);
    }

    @Sentence(of = "Promise 14", says = "the ANSWER to an open ASKING: OUT is the TOKEN: how many bytes.")
    static void finalizeGivesToken(Pair pair) {
        pair.secretKey(SECRET);
        pair.rsaKey(PLAIN);
        pair.rsaKey(SALTED);
        pair.rsaKey(LARGEST);
        int[] sizes = {146, 164, 198, 354};
        for (int key = 0; key < 4; key++) {
            pair.due(pair.put(askOf(pair, key)).finalize(key), sizes[key]);
            pair.due(pair.count(3), 0);
            sameBytes("the TOKEN of KEY " + key, pair.seen(), pair.ownToken(key, NONCE));
            pair.due(pair.again(0, sizes[key]), sizes[key]);
            pair.due(pair.redeem(), key == 0 ? 0 : SPENT);
        }
    }

    @Sentence(of = "Promise 14", says = "NoSuchElementException: there is no such ASKING,")
    static void finalizeNone(Pair pair) {
        pair.secretKey(SECRET);
        pair.due(pair.put(ones(145)).finalize(0), THROWN);
        byte[] first = askOf(pair, 0);
        byte[] second = askOf(pair, 0);
        for (int none : new int[] {-1, 2, 3, 59, 60, MIN, MAX}) {
            pair.due(pair.put(first).finalize(none), THROWN);
            pair.due(pair.put(second).finalize(none), THROWN);
        }
        pair.due(pair.count(3), 2);
        pair.due(pair.put(second).finalize(1), 146);
        pair.due(pair.put(first).finalize(0), 146);
    }

    @Sentence(of = "Promise 14", says = "or it is not open;")
    static void finalizeTwice(Pair pair) {
        pair.secretKey(SECRET);
        pair.rsaKey(PLAIN);
        for (int key = 0; key < 2; key++) {
            byte[] answer = askOf(pair, key);
            pair.due(pair.put(Pair.bent(answer, 5)).finalize(key), BAD);
            pair.due(pair.put(answer).finalize(key), key == 0 ? 146 : 164);
            byte[] token = pair.seen();
            pair.due(pair.put(answer).finalize(key), THROWN);
            pair.due(pair.put(ones(3)).finalize(key), THROWN);
            sameBytes("OUT stays", pair.seen(), token);
        }
        pair.due(pair.count(2), 2);
        pair.due(pair.count(3), 0);
    }

    @Sentence(of = "Promise 14", says = "REFUSED: other lengths;")
    static void finalizeOfOtherLengths(Pair pair) {
        pair.secretKey(SECRET);
        pair.rsaKey(PLAIN);
        pair.rsaKey(SALTED);
        int[] due = {145, 66, 100};
        for (int key = 0; key < 3; key++) {
            byte[] answer = askOf(pair, key);
            for (int size : new int[] {0, 1, 48, 49, 66, 97, 100, 145, 194, 1200}) {
                if (size != due[key]) {
                    pair.due(pair.put(java.util.Arrays.copyOf(answer, size)).finalize(key), REFUSED);
                }
            }
            pair.due(pair.put(Model.slice(answer, 0, due[key] - 1)).finalize(key), REFUSED);
            pair.due(pair.put(answer, new byte[1]).finalize(key), REFUSED);
            pair.due(pair.put(answer).finalize(key), new int[] {146, 164, 198}[key]);
        }
    }

    @Sentence(of = "Promise 14", says = "BAD: an ELEMENT that is none,")
    static void finalizeOfNoElement(Pair pair) {
        pair.secretKey(SECRET);
        byte[] answer = askOf(pair, 0);
        for (byte[] wrong : Elements.wrong()) {
            pair.due(pair.put(wrong, Model.slice(answer, 49, 96)).finalize(0), BAD);
        }
        pair.due(pair.put(answer).finalize(0), 146);
        boolean[] seen = new boolean[2];
        for (int asking = 1; asking <= 6; asking++) {
            pair.wish(0, NONCE, BigInteger.valueOf(asking)).request(0);
            List<byte[]> asked = List.of(Model.slice(pair.seen(), 3, 49));
            int right = firstOf(asked.get(0));
            seen[right - 2] = true;
            for (int first : new int[] {0, 1, 4, 5, 0x82, 0x83, 0xfe, 0xff, 5 - right}) {
                pair.due(pair.put(provedWith(asked, new int[] {first})).finalize(asking), BAD);
            }
            pair.due(pair.put(provedWith(asked, new int[] {right})).finalize(asking), 146);
        }
        Pair.check("even and odd ones were there", seen[0] && seen[1]);
    }

    @Sentence(of = "Promise 14", says = "a PROOF that is not right;")
    static void finalizeOfWrongProof(Pair pair) {
        pair.secretKey(SECRET);
        byte[] answer = askOf(pair, 0);
        BigInteger[] wrong = {ZERO, ONE, Q.subtract(ONE), Q, Q.add(ONE), MOST};
        for (int at : new int[] {49, 97}) {
            BigInteger right = numberAt(answer, at);
            pair.due(pair.put(withNumber(answer, at, right.subtract(ONE))).finalize(0), BAD);
            pair.due(pair.put(withNumber(answer, at, right.add(ONE))).finalize(0), BAD);
            pair.due(pair.put(withNumber(answer, at, Q.subtract(right))).finalize(0), BAD);
            for (BigInteger one : wrong) {
                pair.due(pair.put(withNumber(answer, at, one)).finalize(0), BAD);
            }
        }
        pair.due(pair.put(Model.slice(answer, 0, 49), Model.slice(answer, 97, 48), Model.slice(answer, 49, 48))
            .finalize(0), BAD);
        // The ELEMENT is one, but another than K gives: its other sign, and the point it was made of.
        pair.due(pair.put(Pair.bent(answer, 0)).finalize(0), BAD);
        pair.due(pair.put(Elements.of(1), Model.slice(answer, 49, 96)).finalize(0), BAD);
        // Right for another ASKING, not for this one.
        byte[] second = askOf(pair, 0);
        pair.wish(0, Pair.nonce(9, 9), BLIND).request(0);
        pair.due(pair.put(second).finalize(2), BAD);
        pair.due(pair.count(3), 3);
        pair.due(pair.put(answer).finalize(0), 146);
    }

    @Sentence(of = "Promise 14", says = "a number that is not below N,")
    static void finalizeNotBelowN(Pair pair) {
        pair.rsaKey(LOW);
        byte[] answer = askOf(pair, 0);
        BigInteger right = Model.number(answer);
        // Modulo N these would be as good as the right one.
        for (int times = 1; times <= 200; times++) {
            BigInteger more = right.add(LOW.n.multiply(BigInteger.valueOf(times)));
            if (more.bitLength() <= 528 && times % 20 < 3) {
                pair.due(pair.put(Model.bytes(more, 66)).finalize(0), BAD);
            }
        }
        for (BigInteger z : new BigInteger[] {LOW.n.subtract(ONE), LOW.n, LOW.n.add(ONE),
            ONE.shiftLeft(528).subtract(ONE)}) {
            pair.due(pair.put(Model.bytes(z, 66)).finalize(0), BAD);
        }
        pair.due(pair.put(answer).finalize(0), 164);
    }

    @Sentence(of = "Promise 14", says = "a signature that is not right.")
    static void finalizeOfWrongSignature(Pair pair) {
        Rsa[] rsas = {PLAIN, SALTED};
        for (int key = 0; key < 2; key++) {
            Rsa rsa = rsas[key];
            pair.rsaKey(rsa);
            byte[] answer = askOf(pair, key);
            BigInteger right = Model.number(answer);
            BigInteger[] wrong = {ZERO, ONE, right.subtract(ONE), right.add(ONE), rsa.n.subtract(right),
                rsa.n.subtract(ONE), right.multiply(TWO).mod(rsa.n)};
            for (BigInteger one : wrong) {
                pair.due(pair.put(Model.bytes(one, rsa.len)).finalize(key), BAD);
            }
            pair.due(pair.count(3), 1);
            pair.due(pair.put(answer).finalize(key), 98 + rsa.len);
        }
        // Right for another ASKING, not for this one.
        byte[] answer = askOf(pair, 0);
        pair.wish(0, Pair.nonce(9, 9), BLIND).request(0);
        pair.due(pair.put(answer).finalize(3), BAD);
        pair.due(pair.put(answer).finalize(2), 164);
    }

    @Sentence(of = "Promise 14", says = "(The KEY need not be LIVE any more.)")
    static void finalizeOfRetiredKey(Pair pair) {
        pair.secretKey(SECRET);
        pair.rsaKey(PLAIN);
        int[] sizes = {146, 164};
        for (int key = 0; key < 2; key++) {
            byte[] before = askOf(pair, key);
            byte[] behind = askOf(pair, key);
            pair.due(pair.put(before).finalize(2 * key), sizes[key]);
            pair.due(pair.retire(key), 1);
            pair.due(pair.put(Pair.bent(behind, 5)).finalize(2 * key + 1), BAD);
            pair.due(pair.put(behind).finalize(2 * key + 1), sizes[key]);
        }
        Pair many = new Pair("Promise 14, many of a retired KEY");
        many.secretKey(SECRET);
        byte[] answer = askMany(many, 2);
        many.retire(0);
        many.due(many.put(answer).finalizeMany(0, 2), 292);
    }

    @Sentence(of = "Promise 15", says = "Uses the TAPE up:")
    static void finalizeManyUsesUp(Pair pair) {
        usedUp(pair, pair.put(ones(1200)).finalizeMany(0, 1), THROWN);
        pair.secretKey(SECRET);
        pair.rsaKey(PLAIN);
        byte[] answer = askMany(pair, 2);
        pair.wish(1, NONCE, BLIND).request(1);
        usedUp(pair, pair.put(answer).finalizeMany(0, 0), THROWN);
        usedUp(pair, pair.put(answer).finalizeMany(0, 9), THROWN);
        usedUp(pair, pair.put(answer).finalizeMany(2, 2), THROWN);
        usedUp(pair, pair.put(answer).finalizeMany(1, 2), REFUSED);
        usedUp(pair, pair.put(ones(66)).finalizeMany(2, 1), REFUSED);
        usedUp(pair, pair.put(answer, ones(1)).finalizeMany(0, 2), REFUSED);
        usedUp(pair, pair.put(Pair.bent(answer, 7)).finalizeMany(0, 2), BAD);
        usedUp(pair, pair.put(answer).finalizeMany(0, 2), 292);
        usedUp(pair, pair.put(answer).finalizeMany(0, 2), THROWN);
    }

    @Sentence(of = "Promise 15", says = "the ANSWER of issueMany() to so many open ASKINGS of one KEY of TYPE 1,"
        + " from one on: OUT are their TOKENS, one behind the other: how many bytes.")
    static void finalizeManyGivesTokens(Pair pair) {
        pair.secretKey(SECRET);
        int first = 0;
        for (int many : new int[] {1, 2, 7, 8}) {
            byte[] answer = askMany(pair, many);
            pair.due(pair.put(answer).finalizeMany(first, many), 146 * many);
            pair.due(pair.count(3), 0);
            byte[] tokens = pair.seen();
            for (int i = 0; i < many; i++) {
                sameBytes("TOKEN " + i + " of " + many, Model.slice(tokens, 146 * i, 146),
                    pair.ownToken(0, Pair.nonce(i, many)));
            }
            first += many;
        }
        // Of one it is what finalize() takes, and the other way round.
        byte[] answer = askOf(pair, 0);
        pair.due(pair.put(answer).finalizeMany(18, 1), 146);
        pair.due(pair.put(askMany(pair, 1)).finalize(19), 146);
    }

    @Sentence(of = "Promise 15", says = "NoSuchElementException: many is not 1 to 8,")
    static void finalizeManyOfNoneOrNine(Pair pair) {
        pair.secretKey(SECRET);
        byte[] answer = askMany(pair, 8);
        for (int i = 0; i < 4; i++) {
            pair.wish(0, NONCE, BLIND).request(0);
        }
        for (int many : new int[] {-1, 0, 9, 10, 257, 264, MIN, MIN + 8, MAX}) {
            pair.due(pair.put(answer).finalizeMany(0, many), THROWN);
            pair.due(pair.put(ones(49 * Math.max(0, Math.min(many, 10)) + 96)).finalizeMany(0, many), THROWN);
        }
        pair.due(pair.count(3), 12);
        pair.due(pair.put(answer).finalizeMany(0, 8), 1168);
        pair.due(pair.put(ones(145)).finalizeMany(8, 1), BAD);
    }

    @Sentence(of = "Promise 15", says = "or one of these is not there,")
    static void finalizeManyNotThere(Pair pair) {
        pair.secretKey(SECRET);
        pair.due(pair.put(ones(145)).finalizeMany(0, 1), THROWN);
        byte[] answer = askMany(pair, 3);
        int[][] none = {{-1, 1}, {-1, 2}, {-1, 4}, {-3, 3}, {0, 4}, {1, 3}, {2, 2}, {3, 1}, {4, 1}, {MAX, 1}, {MAX, 2},
            {MAX - 1, 3}, {MAX - 7, 8}, {MIN, 1}, {MIN, 8}};
        for (int[] one : none) {
            pair.due(pair.put(answer).finalizeMany(one[0], one[1]), THROWN);
        }
        pair.due(pair.put(ones(145)).finalizeMany(2, 1), BAD);
        pair.due(pair.put(ones(194)).finalizeMany(1, 2), BAD);
        pair.due(pair.put(answer).finalizeMany(0, 3), 438);
    }

    @Sentence(of = "Promise 15", says = "not open;")
    static void finalizeManyNotOpen(Pair pair) {
        pair.secretKey(SECRET);
        byte[] answer = askMany(pair, 4);
        byte[] one = askOf(pair, 0);
        pair.due(pair.put(one).finalize(4), 146);
        byte[] last = askMany(pair, 2);
        // ASKING 4 is not open any more: the first, one between, or the last of them.
        int[][] none = {{4, 1}, {4, 2}, {4, 3}, {3, 2}, {3, 3}, {0, 5}, {0, 7}, {1, 4}};
        for (int[] part : none) {
            pair.due(pair.put(answer).finalizeMany(part[0], part[1]), THROWN);
        }
        pair.due(pair.count(3), 6);
        pair.due(pair.put(answer).finalizeMany(0, 4), 584);
        pair.due(pair.put(answer).finalizeMany(0, 4), THROWN);
        pair.due(pair.put(answer).finalizeMany(0, 1), THROWN);
        pair.due(pair.put(last).finalizeMany(5, 2), 292);
    }

    @Sentence(of = "Promise 15", says = "REFUSED: one is of another KEY than the first one,")
    static void finalizeManyOfTwoKeys(Pair pair) {
        pair.secretKey(SECRET);
        pair.secretKey(SECRET);
        pair.rsaKey(PLAIN);
        byte[] answer = askMany(pair, 2);
        pair.wish(1, NONCE, BLIND).request(1);
        byte[] other = pair.answerTo(17);
        byte[] third = askOf(pair, 0);
        pair.wish(2, NONCE, BLIND).request(2);
        // ASKINGS 0, 1 and 3 are of KEY 0, 2 of KEY 1 (though its secret is the same), 4 of KEY 2.
        for (int[] part : new int[][] {{0, 3}, {0, 4}, {1, 2}, {1, 3}, {2, 2}, {3, 2}, {0, 5}}) {
            pair.due(pair.put(ones(49 * part[1] + 96)).finalizeMany(part[0], part[1]), REFUSED);
        }
        pair.due(pair.count(3), 5);
        pair.due(pair.put(answer).finalizeMany(0, 2), 292);
        pair.due(pair.put(other).finalizeMany(2, 1), 146);
        pair.due(pair.put(third).finalizeMany(3, 1), 146);
    }

    @Sentence(of = "Promise 15", says = "or that is of TYPE 2;")
    static void finalizeManyOfType2(Pair pair) {
        pair.rsaKey(PLAIN);
        pair.secretKey(SECRET);
        byte[] answer = askOf(pair, 0);
        pair.wish(0, NONCE, BLIND).request(0);
        pair.wish(1, NONCE, BLIND).request(1);
        byte[] right = pair.answerTo(17);
        pair.due(pair.put(answer).finalizeMany(0, 1), REFUSED);
        pair.due(pair.put(ones(145)).finalizeMany(0, 1), REFUSED);
        pair.due(pair.put(answer, answer).finalizeMany(0, 2), REFUSED);
        pair.due(pair.put(ones(194)).finalizeMany(0, 2), REFUSED);
        pair.due(pair.put(ones(194)).finalizeMany(1, 2), REFUSED);
        pair.due(pair.put(right).finalizeMany(2, 1), 146);
        pair.due(pair.put(answer).finalize(0), 164);
    }

    @Sentence(of = "Promise 15", says = "other lengths;")
    static void finalizeManyOfOtherLengths(Pair pair) {
        pair.secretKey(SECRET);
        int first = 0;
        for (int many : new int[] {1, 2, 8}) {
            byte[] answer = askMany(pair, many);
            for (int size : new int[] {0, 49, 96, answer.length - 49, answer.length - 1}) {
                pair.due(pair.put(Model.slice(answer, 0, size)).finalizeMany(first, many), REFUSED);
            }
            pair.due(pair.put(answer, ones(1)).finalizeMany(first, many), REFUSED);
            pair.due(pair.put(answer, ones(49)).finalizeMany(first, many), REFUSED);
            if (many > 1) {
                pair.due(pair.put(answer).finalizeMany(first, many - 1), REFUSED);
            }
            pair.due(pair.put(answer).finalizeMany(first, many), 146 * many);
            first += many;
        }
    }

    @Sentence(of = "Promise 15", says = "BAD, as of finalize(): all stay open.")
    static void finalizeManyOfWrongAnswer(Pair pair) {
        pair.secretKey(SECRET);
        byte[] answer = askMany(pair, 8);
        byte[][] wrong = Elements.wrong();
        for (int i = 0; i < 8; i++) {
            byte[] none = answer.clone();
            System.arraycopy(wrong[i], 0, none, 49 * i, 49);
            pair.due(pair.put(none).finalizeMany(0, 8), BAD);
            pair.due(pair.put(Pair.bent(answer, 49 * i)).finalizeMany(0, 8), BAD);
            pair.due(pair.count(3), 8);
        }
        for (int at : new int[] {392, 440}) {
            BigInteger right = numberAt(answer, at);
            for (BigInteger one : new BigInteger[] {right.subtract(ONE), right.add(ONE), ZERO, Q, MOST}) {
                pair.due(pair.put(withNumber(answer, at, one)).finalizeMany(0, 8), BAD);
            }
        }
        byte[] swapped = Model.join(Model.slice(answer, 49, 49), Model.slice(answer, 0, 49),
            Model.slice(answer, 98, 390));
        pair.due(pair.put(swapped).finalizeMany(0, 8), BAD);
        List<byte[]> asked = new ArrayList<>();
        int[] firsts = new int[8];
        for (int i = 0; i < 8; i++) {
            asked.add(Model.element(Model.times(BigInteger.valueOf(3 + i), Model.hashToGroup(
                pair.input(0, Pair.nonce(i, 8))))));
            firsts[i] = firstOf(asked.get(i));
        }
        for (int i = 0; i < 8; i++) {
            firsts[i] += 128;
            pair.due(pair.put(provedWith(asked, firsts)).finalizeMany(0, 8), BAD);
            firsts[i] -= 128;
        }
        sameBytes("the ANSWER itself", provedWith(asked, firsts), answer);
        pair.due(pair.count(3), 8);
        pair.due(pair.put(answer).finalizeMany(0, 8), 1168);
        pair.due(pair.count(3), 0);
    }
}
