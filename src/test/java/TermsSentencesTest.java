import java.lang.reflect.Field;
import java.lang.reflect.Method;
import java.lang.reflect.Modifier;
import java.util.Map;
import java.util.NoSuchElementException;
import java.util.Set;
import java.util.TreeSet;

/** "What it is", "The public face", Terms 1 and 4, sentence by sentence. */
final class TermsSentencesTest extends Sentences {
    private static final byte[] R = Pair.scalar(11);

    public static void main(String[] args) {
        run(TermsSentencesTest.class);
    }

    /** KEYS 0 and 1 are of TYPES 1 and 2. */
    private static void twoKeys(Pair pair) {
        pair.secretKey(TWO);
        pair.rsaKey(PLAIN);
    }

    @Sentence(of = "What it is", says = "a redeemer takes each token once,")
    static void eachTokenOnce(Pair pair) {
        twoKeys(pair);
        for (int key = 0; key < 2; key++) {
            byte[] token = pair.ownToken(key, Pair.nonce(key, 1));
            pair.due(pair.put(token).redeem(), 0);
            pair.due(pair.put(token).redeem(), SPENT);
            pair.power();
            pair.due(pair.put(token).redeem(), SPENT);
        }
    }

    @Sentence(of = "What it is", says = "An object is used for at most 512 calls after it has been made;")
    static void fiveHundredAndTwelveCalls(Pair pair) {
        // On an object of its own: a pair makes many calls more, to see.
        VeilMint x = new VeilMint();
        for (int call = 1; call <= 510; call++) {
            boolean last = call % 61 == 0;
            int got = last ? x.digest() : x.feed(call, call, call, call, call);
            pair.due(got, last ? 32 : 20 * (call % 61));
        }
        pair.due(x.end(0), true);
        pair.due(x.digest(), 32);
    }

    @Sentence(of = "The public face", says = "public static final int NONE = -1; public static final int REFUSED = -2;"
        + " public static final int NO_KEY = -3; public static final int BAD = -4; public static final int SPENT = -5;"
        + " public static final int FULL = -6; public static final int DOWN = -9;")
    static void constants(Pair pair) throws IllegalAccessException {
        Map<String, Integer> due = Map.of("NONE", -1, "REFUSED", -2, "NO_KEY", -3, "BAD", -4, "SPENT", -5, "FULL", -6,
            "DOWN", -9);
        for (Field field : VeilMint.class.getFields()) {
            Pair.check(field + " is a constant", Modifier.isStatic(field.getModifiers())
                && Modifier.isFinal(field.getModifiers()) && field.getType() == int.class);
            pair.due((Integer) field.get(null), due.getOrDefault(field.getName(), MAX));
        }
        pair.due(VeilMint.class.getFields().length, due.size());
    }

    @Sentence(of = "The public face", says = "public VeilMint();")
    static void constructor(Pair pair) throws NoSuchMethodException {
        pair.due(VeilMint.class.getConstructors().length, 1);
        pair.due(VeilMint.class.getConstructor().getExceptionTypes().length, 0);
        pair.due(VeilMint.class.getModifiers(), Modifier.PUBLIC | Modifier.FINAL);
    }

    @Sentence(of = "The public face", says = "public int feed(int a, int b, int c, int d, int e);"
        + " public boolean end(int n); public int again(int from, int many); public int out(int i);"
        + " public int outs(); public int key(int type); public boolean retire(int key) throws NoSuchElementException;"
        + " public int look(int key, int what) throws NoSuchElementException; public int digest();"
        + " public int request(int key); public int issue(); public int issueMany(int many);"
        + " public int finalize(int asking) throws NoSuchElementException;"
        + " public int finalizeMany(int asking, int many) throws NoSuchElementException; public int redeem();"
        + " public boolean cut(int writes); public int power(); public int disk(int i); public int count(int what);")
    static void methods(Pair pair) {
        Set<String> due = Set.of("int feed 5", "boolean end 1", "int again 2", "int out 1", "int outs 0", "int key 1",
            "boolean retire 1 throws", "int look 2 throws", "int digest 0", "int request 1", "int issue 0",
            "int issueMany 1", "int finalize 1 throws", "int finalizeMany 2 throws", "int redeem 0", "boolean cut 1",
            "int power 0", "int disk 1", "int count 1");
        Set<String> got = new TreeSet<>();
        for (Method one : VeilMint.class.getDeclaredMethods()) {
            if (Modifier.isPublic(one.getModifiers())) {
                boolean thrown = one.getExceptionTypes().length == 1
                    && one.getExceptionTypes()[0] == NoSuchElementException.class;
                got.add(one.getReturnType() + " " + one.getName() + " " + one.getParameterCount()
                    + (thrown ? " throws" : ""));
            }
        }
        Pair.check("the face is " + got, got.equals(due));
        pair.due(got.size(), 19);
    }

    @Sentence(of = "Terms 1", says = "Numbers stand with the highest byte first.")
    static void highestFirst(Pair pair) {
        byte[] last = new byte[48];
        last[47] = 1;
        byte[] first = new byte[48];
        first[0] = 1;
        pair.due(pair.put(last).key(1), 0);
        pair.due(pair.put(first).key(1), 1);
        pair.look(0, 1);
        sameBytes("1", pair.seen(), Elements.of(1));
        pair.look(1, 1);
        sameBytes("2^376", pair.seen(), Model.element(Model.times(ONE.shiftLeft(376), Model.G)));
        // 00 00 03 is 3; 03 00 00 would be too large for an E.
        pair.due(pair.put(Rsa.tape(PLAIN.n, 0x030000, ONE, 0, 66)).key(2), REFUSED);
        pair.due(pair.put(Rsa.tape(PLAIN.n, 0x000003, ONE, 0, 66)).key(2), 2);
        // 00 00 00 01 is SLOT 1, 01 00 00 00 is 2^24, that is SLOT 64.
        pair.due(pair.put(pair.ownToken(0, Pair.nonce(1, 1))).redeem(), 0);
        pair.due(pair.disk(36 + 3), 1);
        pair.due(pair.put(pair.ownToken(0, Pair.nonce(1L << 24, 1))).redeem(), 0);
        pair.due(pair.disk(4 * 512 + 8 * 36 + 3), 1);
    }

    @Sentence(of = "Terms 1", says = "H2 is SHA-256, H3 SHA-384 (FIPS 180-4).")
    static void hashes(Pair pair) {
        pair.put(Model.text("abcdbcdecdefdefgefghfghighijhijkijkljklmklmnlmnomnopnopq")).digest();
        sameBytes("56 bytes", pair.seen(), Model.hex(
            "248d6a61d20638b8e5c026930c3e6039a33ce45964ff2167f6ecedd419db06c1"));
        for (int size : new int[] {0, 55, 56, 64, 1200}) {
            pair.put(some(size)).digest();
            sameBytes("of " + size, pair.seen(), Model.h2(some(size)));
        }
        twoKeys(pair);
        for (int key = 0; key < 2; key++) {
            pair.due(pair.put(pair.ownToken(key, Pair.nonce(key, 3))).redeem(), 0);
        }
    }

    @Sentence(of = "Terms 1", says = "(v, k) is the number v in k bytes.")
    static void numbersInBytes(Pair pair) {
        twoKeys(pair);
        // TYPE in two bytes ahead of each REQUEST, (1, 4) ahead of a spent NONCE.
        for (int key = 0; key < 2; key++) {
            pair.wish(key, NONCE, TWO).request(key);
            pair.due(pair.out(0), 0);
            pair.due(pair.out(1), key + 1);
        }
        pair.put(pair.ownToken(0, Pair.nonce(0, 255))).redeem();
        for (int i = 0; i < 4; i++) {
            pair.due(pair.disk(i), i == 3 ? 1 : 0);
        }
        pair.due(pair.disk(35), 255);
        pair.due(pair.disk(36), 0);
    }

    @Sentence(of = "Terms 1", says = "The TAPE has at most 1200 bytes.")
    static void tapeOf1200(Pair pair) {
        pair.digest();
        for (int have : new int[] {1199, 1200}) {
            pair.put(some(have));
            pair.due(pair.count(8), have);
            pair.due(pair.feed(1, 1, 1, 1, 1), NONE);
            pair.due(pair.again(0, 2), NONE);
            pair.due(pair.again(0, 1), have == 1199 ? 1200 : NONE);
            pair.due(pair.again(0, 1), NONE);
            pair.due(pair.end(1201), false);
            pair.due(pair.count(8), 1200);
            pair.digest();
        }
    }

    @Sentence(of = "Terms 1", says = "\"Uses the TAPE up\": it is empty behind the call, whatever comes of it.")
    static void usesTheTapeUp(Pair pair) {
        twoKeys(pair);
        byte[] most = ones(1200);
        for (byte[] tape : new byte[][] {most, ones(1), new byte[0]}) {
            usedUp(pair, pair.put(tape).key(1), REFUSED);
            usedUp(pair, pair.put(tape).digest(), 32);
            usedUp(pair, pair.put(tape).request(0), REFUSED);
            usedUp(pair, pair.put(tape).request(9), NO_KEY);
            usedUp(pair, pair.put(tape).issue(), REFUSED);
            usedUp(pair, pair.put(tape).issueMany(1), REFUSED);
            usedUp(pair, pair.put(tape).finalize(0), THROWN);
            usedUp(pair, pair.put(tape).finalizeMany(0, 1), THROWN);
            usedUp(pair, pair.put(tape).redeem(), tape.length < 98 ? REFUSED : NO_KEY);
        }
        // What does not use it up leaves it.
        pair.put(most);
        pair.retire(0);
        pair.look(1, 0);
        pair.cut(1);
        pair.power();
        pair.due(pair.look(5, 0), THROWN);
        pair.due(pair.retire(5), THROWN);
        pair.due(pair.count(8), 1200);
        pair.digest();
        sameBytes("all of it", pair.seen(), Model.h2(most));
    }

    @Sentence(of = "Terms 1", says = "OUT is what the latest call that sets it left")
    static void outIsSet(Pair pair) {
        twoKeys(pair);
        pair.due(pair.outs(), 0);
        int[] sizes = {pair.look(0, 1), pair.look(0, 0), pair.digest(), pair.look(1, 1)};
        int[] due = {49, 32, 32, 69};
        for (int i = 0; i < 4; i++) {
            pair.due(sizes[i], due[i]);
        }
        pair.due(pair.outs(), 69);
        pair.due(pair.wish(0, NONCE, TWO).request(0), 0);
        pair.due(pair.outs(), 52);
        byte[] answer = pair.answerTo(3);
        pair.due(pair.outs(), 145);
        pair.due(pair.put(pair.head(0), Elements.of(1), Elements.of(2), R).issueMany(2), 194);
        pair.due(pair.outs(), 194);
        pair.due(pair.put(answer).finalize(0), 146);
        byte[] token = pair.seen();
        // None of these sets it.
        pair.put(token).redeem();
        pair.secretKey(ONE);
        pair.retire(2);
        pair.look(0, 2);
        pair.look(0, 3);
        pair.look(0, 4);
        pair.cut(4);
        pair.power();
        pair.feed(1, 2, 3, 4, 5);
        pair.again(0, 20);
        pair.end(3);
        sameBytes("OUT stays", pair.seen(), token);
    }

    @Sentence(of = "Terms 1", says = "(one that answers below 0 leaves it).")
    static void outIsLeft(Pair pair) {
        twoKeys(pair);
        pair.wish(0, NONCE, TWO).request(0);
        pair.wish(1, NONCE, TWO).request(1);
        pair.digest();
        pair.due(pair.put(ones(111)).request(0), REFUSED);
        pair.due(pair.wish(0, NONCE, ZERO).request(0), BAD);
        pair.due(pair.wish(1, NONCE, ZERO).request(1), BAD);
        pair.due(pair.put(pair.head(0), Elements.of(5), Pair.scalar(0)).issue(), BAD);
        pair.due(pair.put(pair.head(0), Elements.none(), R).issue(), BAD);
        pair.due(pair.put(pair.head(0), Elements.of(5), Elements.none(), R).issueMany(2), BAD);
        pair.due(pair.put(pair.head(1), Model.bytes(PLAIN.n, 66)).issue(), BAD);
        pair.due(pair.put(ones(145)).finalize(0), BAD);
        pair.due(pair.put(ones(145)).finalizeMany(0, 1), BAD);
        pair.due(pair.put(ones(66)).finalize(1), BAD);
        pair.due(pair.put(ones(145)).finalize(2), THROWN);
        pair.due(pair.look(9, 0), THROWN);
        pair.due(pair.look(0, 9), THROWN);
        pair.due(pair.put(Pair.bent(pair.ownToken(0, NONCE), 98)).redeem(), BAD);
        pair.due(pair.put(ones(47)).key(1), REFUSED);
        sameBytes("OUT stays", pair.seen(), DIGEST);
    }

    @Sentence(of = "Terms 4", says = "KEYS (at most 6, numbered from 0 on) are LIVE till retire().")
    static void atMostSixKeys(Pair pair) {
        for (int i = 0; i < 6; i++) {
            pair.due(pair.look(i, 3), THROWN);
            pair.due(pair.secretKey(ONE), i);
            pair.due(pair.look(i, 3), 1);
        }
        pair.due(pair.secretKey(ONE), FULL);
        pair.due(pair.look(6, 3), THROWN);
        pair.due(pair.look(-1, 3), THROWN);
        for (int i = 0; i < 6; i++) {
            pair.due(pair.look(i, 3), 1);
            pair.due(pair.wish(i, NONCE, TWO).request(i), i);
            pair.due(pair.retire(i), 1);
            pair.due(pair.look(i, 3), 0);
            pair.due(pair.wish(i, NONCE, TWO).request(i), NO_KEY);
        }
    }

    @Sentence(of = "Terms 4", says = "KEY ID: H2 of the ELEMENT A; or of N, E in three bytes, and a byte S.")
    static void keyIds(Pair pair) {
        pair.secretKey(Q.subtract(ONE));
        pair.look(0, 0);
        sameBytes("of TYPE 1", pair.seen(), Model.h2(Pair.bent(Elements.of(1), 0)));
        // S and E tell KEYS apart, D does not.
        int[][] kinds = {{3, 0}, {3, 48}, {65537, 0}, {65537, 48}};
        for (int i = 0; i < 4; i++) {
            pair.due(pair.put(Rsa.tape(SALTED.n, kinds[i][0], ONE, kinds[i][1], 100)).key(2), i + 1);
            pair.due(pair.look(i + 1, 0), 32);
            sameBytes("of TYPE 2", pair.seen(), Model.h2(Model.join(Model.bytes(SALTED.n, 100),
                Model.bytes(kinds[i][0], 3), Model.bytes(kinds[i][1], 1))));
        }
        byte[] id = pair.seen();
        pair.due(pair.put(Rsa.tape(SALTED.n, 65537, TWO, 48, 100)).key(2), 5);
        pair.due(pair.look(5, 0), 32);
        sameBytes("whatever D is", pair.seen(), id);
    }

    @Sentence(of = "Terms 4", says = "An INPUT: TYPE in two bytes, a NONCE of 32 bytes, a DIGEST of 32, the KEY ID"
        + " (98 in all).")
    static void inputs(Pair pair) {
        twoKeys(pair);
        byte[] wish = some(64);
        for (int key = 0; key < 2; key++) {
            pair.due(pair.put(wish, Model.bytes(TWO, key == 0 ? 48 : 66)).request(key), key);
            pair.due(pair.put(pair.answerTo(3)).finalize(key), key == 0 ? 146 : 164);
            byte[] token = pair.seen();
            sameBytes("TYPE", Model.slice(token, 0, 2), new byte[] {0, (byte) (key + 1)});
            sameBytes("NONCE and DIGEST", Model.slice(token, 2, 64), wish);
            pair.due(pair.look(key, 0), 32);
            sameBytes("KEY ID", Model.slice(token, 66, 32), pair.seen());
        }
    }

    @Sentence(of = "Terms 4", says = "A TOKEN: an INPUT and its AUTHENTICATOR: the OUTPUT (48 bytes), or a signature"
        + " (LEN bytes).")
    static void tokens(Pair pair) {
        twoKeys(pair);
        pair.rsaKey(LARGEST);
        int[] sizes = {146, 164, 354};
        for (int key = 0; key < 3; key++) {
            byte[] token = pair.ownToken(key, Pair.nonce(key, 1));
            pair.due(token.length, sizes[key]);
            pair.due(pair.put(Model.slice(token, 0, sizes[key] - 1)).redeem(), REFUSED);
            pair.due(pair.put(token, new byte[1]).redeem(), REFUSED);
            pair.due(pair.put(token).redeem(), 0);
        }
    }

    @Sentence(of = "Terms 4", says = "A REQUEST: TYPE in two bytes, the last byte of the KEY ID, what is blinded"
        + " (49 or LEN bytes).")
    static void requests(Pair pair) {
        twoKeys(pair);
        pair.rsaKey(LARGEST);
        int[] sizes = {52, 69, 259};
        for (int key = 0; key < 3; key++) {
            pair.look(key, 0);
            int last = pair.out(31);
            pair.due(pair.wish(key, NONCE, TWO).request(key), key);
            pair.due(pair.outs(), sizes[key]);
            pair.due(pair.out(0), 0);
            pair.due(pair.out(1), key == 0 ? 1 : 2);
            pair.due(pair.out(2), last);
        }
    }

    @Sentence(of = "Terms 4", says = "An ANSWER of TYPE 1: the evaluated ELEMENTS and the PROOF; of TYPE 2: what was"
        + " signed.")
    static void answers(Pair pair) {
        twoKeys(pair);
        pair.rsaKey(LARGEST);
        pair.due(pair.put(pair.head(0), Elements.of(5), R).issue(), 49 + 96);
        sameBytes("the ELEMENT", Model.slice(pair.seen(), 0, 49), Elements.of(10));
        pair.due(pair.put(pair.head(0), Elements.of(5), Elements.of(6), R).issueMany(2), 2 * 49 + 96);
        sameBytes("both", Model.slice(pair.seen(), 0, 98), Model.join(Elements.of(10), Elements.of(12)));
        pair.due(pair.put(pair.head(1), Model.bytes(TWO, 66)).issue(), 66);
        sameBytes("signed", pair.seen(), PLAIN.signed(TWO));
        pair.due(pair.put(pair.head(2), Model.bytes(TWO, 256)).issue(), 256);
        sameBytes("signed", pair.seen(), LARGEST.signed(TWO));
    }

    @Sentence(of = "Terms 4", says = "ASKINGS (at most 60, numbered from 0 on) are what holders remember: KEY, INPUT,"
        + " blind;")
    static void atMostSixtyAskings(Pair pair) {
        twoKeys(pair);
        byte[][] answers = new byte[60][];
        for (int i = 0; i < 60; i++) {
            int key = i % 20 == 0 ? 0 : 1;
            pair.due(pair.wish(key, Pair.nonce(i, i), java.math.BigInteger.valueOf(2 + i)).request(key), i);
            answers[i] = pair.answerTo(3 + i);
        }
        pair.due(pair.wish(0, NONCE, TWO).request(0), FULL);
        pair.due(pair.wish(1, NONCE, TWO).request(1), FULL);
        // Each remembers its own, whatever came behind it.
        for (int i : new int[] {59, 58, 40, 20, 1, 0}) {
            int key = i % 20 == 0 ? 0 : 1;
            pair.due(pair.put(answers[i]).finalize(i), key == 0 ? 146 : 164);
            sameBytes("the TOKEN of " + i, pair.seen(), pair.ownToken(key, Pair.nonce(i, i)));
        }
        pair.due(pair.put(answers[59]).finalize(60), THROWN);
        pair.due(pair.put(answers[0]).finalize(-1), THROWN);
    }

    @Sentence(of = "Terms 4", says = "each is open till finalize() takes its ANSWER.")
    static void openTillFinalized(Pair pair) {
        twoKeys(pair);
        for (int key = 0; key < 2; key++) {
            pair.wish(key, NONCE, TWO).request(key);
            byte[] answer = pair.answerTo(3);
            pair.due(pair.count(3), 1);
            pair.due(pair.put(Model.slice(answer, 0, answer.length - 1)).finalize(key), REFUSED);
            pair.due(pair.put(Pair.bent(answer, answer.length - 1)).finalize(key), BAD);
            pair.due(pair.count(3), 1);
            pair.due(pair.put(answer).finalize(key), key == 0 ? 146 : 164);
            pair.due(pair.count(3), 0);
            pair.due(pair.put(answer).finalize(key), THROWN);
        }
    }
}
