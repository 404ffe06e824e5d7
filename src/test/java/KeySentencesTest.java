import java.math.BigInteger;

/** Promises 7 to 9: key, retire and look, sentence by sentence. */
final class KeySentencesTest extends Sentences {
    public static void main(String[] args) {
        run(KeySentencesTest.class);
    }

    private static int rsaKey(Pair pair, BigInteger n, long e, BigInteger d, int salt) {
        return pair.put(Rsa.tape(n, e, d, salt, 66)).key(2);
    }

    @Sentence(of = "Promise 7", says = "Uses the TAPE up:")
    static void keyUsesUp(Pair pair) {
        usedUp(pair, pair.put(ones(48)).key(3), REFUSED);
        usedUp(pair, pair.put(ones(1200)).key(1), REFUSED);
        usedUp(pair, pair.put(ones(1200)).key(2), REFUSED);
        usedUp(pair, pair.put(new byte[48]).key(1), REFUSED);
        usedUp(pair, pair.put(new byte[136]).key(2), REFUSED);
        for (int i = 0; i < 6; i++) {
            usedUp(pair, i % 2 == 0 ? pair.secretKey(ONE) : pair.rsaKey(PLAIN), i);
        }
        usedUp(pair, pair.secretKey(ONE), FULL);
        usedUp(pair, pair.rsaKey(PLAIN), FULL);
    }

    @Sentence(of = "Promise 7", says = "of type 1 a SECRET (48 bytes);")
    static void keyOf48Bytes(Pair pair) {
        for (int size : new int[] {0, 1, 46, 47, 49, 50, 96}) {
            pair.due(pair.put(ones(size)).key(1), REFUSED);
        }
        pair.due(pair.put(ones(48)).key(1), 0);
        pair.due(pair.put(Pair.scalar(1)).key(1), 1);
        pair.due(pair.look(1, 1), 49);
        sameBytes("once the base point", pair.seen(), Elements.of(1));
        pair.due(pair.put(Pair.scalar(Q.subtract(ONE))).key(1), 2);
        pair.due(pair.look(2, 1), 49);
        sameBytes("it with the other sign", pair.seen(), Pair.bent(Elements.of(1), 0));
        pair.due(pair.secretKey(ONE.shiftLeft(383)), 3);
        pair.due(pair.look(3, 1), 49);
    }

    @Sentence(of = "Promise 7",
        says = "of type 2 N, E (three bytes), D and a byte S (LEN is half of the TAPE's bytes less four):")
    static void keyOfTwiceLenAndFour(Pair pair) {
        for (int size : new int[] {132, 133, 134, 135, 136, 137, 138, 514, 515, 516, 517, 518, 519}) {
            int len = (size - 4) / 2;
            BigInteger n = modulus(len, 200);
            byte[] tape = Model.join(Rsa.tape(n, 3, ONE, 0, len), new byte[size % 2]);
            Pair one = new Pair("so many bytes: " + size);
            boolean right = size % 2 == 0 && len >= 66 && len <= 256;
            one.due(one.put(tape).key(2), right ? 0 : REFUSED);
            if (right) {
                one.due(one.look(0, 4), len);
                one.due(one.look(0, 1), len + 3);
                sameBytes("N and E", one.seen(), Model.join(Model.bytes(n, len), Model.bytes(3, 3)));
            }
        }
        // D is what signs, and S how many bytes a salt has.
        pair.due(pair.rsaKey(SALTED), 0);
        BigInteger x = BigInteger.valueOf(77);
        pair.due(pair.put(pair.head(0), Model.bytes(x, 100)).issue(), 100);
        sameBytes("x to the D", pair.seen(), Model.bytes(x.modPow(SALTED.d, SALTED.n), 100));
        pair.due(pair.put(ones(64 + 48 + 100)).request(0), 0);
    }

    @Sentence(of = "Promise 7", says = "a new KEY: its number.")
    static void keyNumbers(Pair pair) {
        for (int i = 0; i < 6; i++) {
            pair.due(pair.put(ones(47)).key(1), REFUSED);
            pair.due(i % 3 == 1 ? pair.rsaKey(PLAIN) : pair.secretKey(BigInteger.valueOf(7)), i);
            pair.due(pair.count(0), i + 1);
            pair.due(pair.look(i, 2), i % 3 == 1 ? 2 : 1);
            pair.due(pair.look(i, 3), 1);
            pair.due(pair.look(i + 1, 3), THROWN);
        }
    }

    @Sentence(of = "Promise 7", says = "REFUSED: another type,")
    static void keyOfAnotherType(Pair pair) {
        for (int type : new int[] {-2, -1, 0, 3, 4, 48, 256, 257, 258, 65537, 65538, MIN, MIN + 1, MIN + 2, MAX}) {
            pair.due(pair.put(ones(48)).key(type), REFUSED);
            pair.due(pair.put(PLAIN.tape()).key(type), REFUSED);
        }
        pair.due(pair.count(0), 0);
        pair.due(pair.put(ones(48)).key(1), 0);
        pair.due(pair.put(PLAIN.tape()).key(2), 1);
    }

    @Sentence(of = "Promise 7", says = "other lengths,")
    static void keyOfOtherLengths(Pair pair) {
        for (int size : new int[] {0, 1, 47, 49, 136, 1200}) {
            pair.due(pair.put(ones(size)).key(1), REFUSED);
        }
        for (int size : new int[] {0, 1, 2, 3, 4, 5, 6, 48, 134, 135, 137, 517, 518, 1200}) {
            byte[] bytes = ones(size);
            if (size > 0) {
                bytes[size - 1] = 0;
            }
            pair.due(pair.put(bytes).key(2), REFUSED);
        }
        pair.due(pair.count(0), 0);
        pair.due(pair.put(ones(48)).key(1), 0);
        pair.due(pair.put(PLAIN.tape()).key(2), 1);
    }

    @Sentence(of = "Promise 7", says = "or a number that can't be (N, E, S as told in 3;")
    static void keyOfWrongNumbers(Pair pair) {
        for (BigInteger secret : new BigInteger[] {ZERO, Q, Q.add(ONE), MOST}) {
            pair.due(pair.secretKey(secret), REFUSED);
        }
        BigInteger n = PLAIN.n;
        pair.due(rsaKey(pair, n.subtract(ONE), 3, ONE, 0), REFUSED);
        pair.due(rsaKey(pair, ONE.shiftLeft(520).subtract(ONE), 3, ONE, 0), REFUSED);
        for (int e : new int[] {0, 1, 2, 4, 65536, 65538, 65539}) {
            pair.due(rsaKey(pair, n, e, ONE, 0), REFUSED);
        }
        for (int salt : new int[] {1, 47, 48, 49, 255}) {
            pair.due(rsaKey(pair, n, 3, ONE, salt), REFUSED);
        }
        pair.due(pair.put(Rsa.tape(modulus(99, 255), 3, ONE, 48, 99)).key(2), REFUSED);
        pair.due(pair.put(Rsa.tape(SALTED.n, 3, ONE, 47, 100)).key(2), REFUSED);
        pair.due(pair.count(0), 0);
        pair.due(pair.secretKey(ONE), 0);
        pair.due(pair.secretKey(Q.subtract(ONE)), 1);
        pair.due(rsaKey(pair, n, 3, ONE, 0), 2);
        pair.due(rsaKey(pair, ONE.shiftLeft(520).add(ONE), 65537, ONE, 0), 3);
        pair.due(pair.put(Rsa.tape(SALTED.n, 3, ONE, 48, 100)).key(2), 4);
    }

    @Sentence(of = "Promise 7", says = "D below N, above 0);")
    static void keyOfWrongD(Pair pair) {
        BigInteger n = PLAIN.n;
        BigInteger[] wrong = {ZERO, n, n.add(ONE), n.add(TWO), ONE.shiftLeft(528).subtract(ONE),
            n.add(ONE.shiftLeft(520))};
        for (BigInteger d : wrong) {
            pair.due(rsaKey(pair, n, 3, d, 0), REFUSED);
        }
        BigInteger[] right = {ONE, TWO, n.subtract(ONE), n.subtract(TWO), ONE.shiftLeft(520), n.shiftRight(1)};
        for (int i = 0; i < right.length; i++) {
            pair.due(rsaKey(pair, n, 3, right[i], 0), i);
        }
    }

    @Sentence(of = "Promise 7", says = "FULL: there are 6.")
    static void keyFull(Pair pair) {
        for (int i = 0; i < 5; i++) {
            pair.due(pair.secretKey(ONE), i);
        }
        pair.due(pair.rsaKey(PLAIN), 5);
        pair.due(pair.secretKey(ONE), FULL);
        pair.due(pair.rsaKey(PLAIN), FULL);
        pair.due(pair.count(0), 6);
        pair.due(pair.retire(0), 1);
        pair.due(pair.retire(5), 1);
        pair.due(pair.secretKey(ONE), FULL);
        pair.due(pair.rsaKey(PLAIN), FULL);
        pair.due(pair.look(5, 2), 2);
        pair.due(pair.look(6, 2), THROWN);
    }

    @Sentence(of = "Promise 8", says = "A KEY is LIVE no more: whether it was.")
    static void retireOnce(Pair pair) {
        for (int i = 0; i < 3; i++) {
            pair.secretKey(BigInteger.valueOf(i + 1));
        }
        pair.feed(1, 2, 3, 4, 5);
        pair.due(pair.retire(1), 1);
        pair.due(pair.retire(1), 0);
        pair.due(pair.retire(1), 0);
        int[] live = {1, 0, 1};
        for (int i = 0; i < 3; i++) {
            pair.due(pair.look(i, 3), live[i]);
        }
        pair.due(pair.retire(0), 1);
        pair.due(pair.retire(2), 1);
        pair.due(pair.count(1), 0);
        pair.due(pair.count(0), 3);
        pair.due(pair.count(8), 20);
    }

    @Sentence(of = "Promise 8", says = "NoSuchElementException: there is no such KEY.")
    static void retireNone(Pair pair) {
        pair.due(pair.retire(0), THROWN);
        for (int keys = 1; keys <= 6; keys++) {
            pair.secretKey(BigInteger.valueOf(keys));
            for (int none : new int[] {-1, keys, keys + 1, 6, 7, MIN, MAX}) {
                pair.due(pair.retire(none), THROWN);
            }
            pair.due(pair.count(1), keys);
        }
        pair.due(pair.retire(0), 1);
        pair.due(pair.retire(5), 1);
    }

    @Sentence(of = "Promise 9", says = "Of a KEY, what 0: OUT is its KEY ID;")
    static void lookAtId(Pair pair) {
        pair.secretKey(ONE);
        pair.rsaKey(PLAIN);
        pair.rsaKey(LARGEST);
        pair.due(pair.look(0, 0), 32);
        sameBytes("of TYPE 1", pair.seen(), Model.h2(Elements.of(1)));
        pair.due(pair.look(1, 0), 32);
        sameBytes("of 66 bytes", pair.seen(), Model.h2(Model.join(Model.bytes(PLAIN.n, 66), Model.hex("00000300"))));
        pair.due(pair.look(2, 0), 32);
        sameBytes("of 256", pair.seen(), Model.h2(Model.join(Model.bytes(LARGEST.n, 256), Model.hex("01000130"))));
    }

    @Sentence(of = "Promise 9", says = "1: OUT is its public part (A; N and E): how many bytes;")
    static void lookAtPublicPart(Pair pair) {
        pair.secretKey(TWO);
        pair.rsaKey(PLAIN);
        pair.rsaKey(LARGEST);
        pair.due(pair.look(0, 1), 49);
        sameBytes("of TYPE 1", pair.seen(), Elements.of(2));
        pair.due(pair.look(1, 1), 69);
        sameBytes("of 66 bytes", pair.seen(), Model.join(Model.bytes(PLAIN.n, 66), Model.hex("000003")));
        pair.due(pair.look(2, 1), 259);
        sameBytes("of 256", pair.seen(), Model.join(Model.bytes(LARGEST.n, 256), Model.hex("010001")));
    }

    /** Looks at each of three KEYS, and sees that OUT and the TAPE stay as they were. */
    private static void lookAtNumbers(Pair pair, int what, int[] due) {
        pair.digest();
        byte[] out = pair.seen();
        pair.feed(1, 2, 3, 4, 5);
        for (int key = 0; key < 3; key++) {
            pair.due(pair.look(key, what), due[key]);
        }
        sameBytes("OUT stays", pair.seen(), out);
        pair.due(pair.count(8), 20);
    }

    @Sentence(of = "Promise 9", says = "2: its TYPE;")
    static void lookAtType(Pair pair) {
        pair.rsaKey(PLAIN);
        pair.secretKey(ONE);
        pair.rsaKey(SALTED);
        pair.retire(1);
        lookAtNumbers(pair, 2, new int[] {2, 1, 2});
    }

    @Sentence(of = "Promise 9", says = "3: 1 if it is LIVE, else 0;")
    static void lookWhetherLive(Pair pair) {
        pair.secretKey(ONE);
        pair.rsaKey(PLAIN);
        pair.secretKey(ONE);
        lookAtNumbers(pair, 3, new int[] {1, 1, 1});
        pair.retire(1);
        pair.retire(1);
        lookAtNumbers(pair, 3, new int[] {1, 0, 1});
        pair.retire(0);
        lookAtNumbers(pair, 3, new int[] {0, 0, 1});
    }

    @Sentence(of = "Promise 9", says = "4: LEN (48 of TYPE 1).")
    static void lookAtLength(Pair pair) {
        pair.secretKey(Q.subtract(ONE));
        pair.rsaKey(PLAIN);
        pair.rsaKey(LARGEST);
        lookAtNumbers(pair, 4, new int[] {48, 66, 256});
    }

    @Sentence(of = "Promise 9", says = "NoSuchElementException: there is no such KEY, or another what.")
    static void lookAtNone(Pair pair) {
        for (int what = -1; what <= 5; what++) {
            pair.due(pair.look(0, what), THROWN);
        }
        pair.secretKey(ONE);
        pair.rsaKey(PLAIN);
        pair.digest();
        for (int key : new int[] {-1, 2, 3, 6, MIN, MAX}) {
            for (int what = -1; what <= 5; what++) {
                pair.due(pair.look(key, what), THROWN);
            }
        }
        for (int what : new int[] {-2, -1, 5, 6, 256, MIN, MAX}) {
            pair.due(pair.look(0, what), THROWN);
            pair.due(pair.look(1, what), THROWN);
        }
        sameBytes("OUT stays", pair.seen(), DIGEST);
        pair.due(pair.look(1, 4), 66);
        pair.due(pair.look(0, 0), 32);
    }
}
