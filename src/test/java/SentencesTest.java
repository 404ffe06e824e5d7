import java.lang.reflect.Method;
import java.util.Arrays;
import java.util.List;
import java.util.Map;
import java.util.TreeMap;

/** That each sentence of the document has a test that stands for it, and each such test a sentence. */
final class SentencesTest {
    private static final List<Class<?>> TESTS = List.of(TermsSentencesTest.class, TypesSentencesTest.class,
        SpentSentencesTest.class, TapeSentencesTest.class, KeySentencesTest.class, RequestSentencesTest.class,
        IssueSentencesTest.class, FinalizeSentencesTest.class, RedeemSentencesTest.class, DiskSentencesTest.class);
    /** What names no boundary: what is merely named, and formulas (ModelTest and KnownAnswersTest hold those). */
    private static final String[][] NO_BOUNDARY = {
        {"What it is", "A mint of tokens that tell nothing of who asked for them (Privacy Pass): holders blind what"
            + " they ask for, the issuer signs or evaluates it unseen, holders take the blind away and hold a token,"
            + " and"},
        {"What it is", "by a table of spent ones on a disk whose power may go ahead of any write."},
        {"What it is", "what later calls answer is free."},
        {"The public face", "import java.util.NoSuchElementException; public final class VeilMint {"},
        {"Terms", "Two types: an oblivious function with proofs over the curve P-384, and blind signatures by RSA."},
        {"Terms 1", "==== 1. BYTES."},
        {"Terms 2", "==== 2. TYPE 1: RFC 9497, mode 1 (VOPRF), suite P384-SHA384. P = 2^384 - 2^128 - 2^96 + 2^32 - 1;"
            + " the curve y^2 = x^3 - 3 x + B, B = b3312fa7e23ee7e4988e056be3f82d19181d9c6efe8141120314088f5013875ac656"
            + "398d8a2ed19d2a85c8edd3ec2aef; the order Q = ffffffffffffffffffffffffffffffffffffffffffffffffc7634d81f437"
            + "2ddf581a0db248b0a77aecec196accc52973; the base point G: x = aa87ca22be8b05378eb1c71ef320ad746e1d3b628ba7"
            + "9b9859f741e082542a385502f25dbf55296c3a545e3872760ab7, y = 3617de4a96262c6f5d9e98bf9292dc29f8f41dbd289a14"
            + "7ce9da3113b5f0b8c00a60b1ce1d7e819d7a431d7c90ea0e5f."},
        {"Terms 2", "CONTEXT: OPRFV1-, a byte 1, -P384-SHA384. Expansion, hash_to_field and the hash to the curve are"
            + " those of RFC 9380 (expand_message_xmd with H3; L is 72; the simplified SWU map with Z = - 12;"
            + " hash_to_curve, of two field elements): hashToGroup of some bytes with the tag HashToGroup-CONTEXT;"
            + " hashToScalar is hash_to_field of one number modulo Q with the tag HashToScalar-CONTEXT."},
        {"Terms 2", "with A = (49, 2) and the ELEMENT, SEED = H3 of A's, (the tag's length, 2), the tag Seed-CONTEXT;"
            + " di = hashToScalar of (48, 2), SEED, (i - 1, 2), (49, 2), Ci, (49, 2), Di, Composite; M the sum of all"
            + " di Ci, Z of all di Di; T = R G, U = R M; c = hashToScalar of the ELEMENTS A, M, Z, T, U, each with"
            + " (49, 2) ahead, and Challenge; the PROOF: c and R - c K modulo Q, 48 bytes each."},
        {"Terms 3", "==== 3. TYPE 2: RFC 9474 with SHA-384, the message as it is (deterministic)."},
        {"Terms 4", "==== 4."},
        {"Terms 5", "==== 5."},
    };

    public static void main(String[] args) {
        Map<String, boolean[]> told = new TreeMap<>();
        Document.sections().forEach((name, words) -> told.put(name, new boolean[words.length()]));
        int tests = 0;
        for (Class<?> one : TESTS) {
            for (Method test : Sentences.testsOf(one)) {
                Sentence sentence = Sentences.sentenceOf(test);
                tell(told, sentence.of(), sentence.says());
                tests++;
            }
        }
        for (String[] one : NO_BOUNDARY) {
            tell(told, one[0], one[1]);
        }
        told.keySet().removeAll(List.of("", "Not promised"));
        told.forEach(SentencesTest::checkAllTold);
        System.out.println(tests + " tests stand for sentences of the document");
        Pair.finish("SentencesTest");
    }

    private static void tell(Map<String, boolean[]> told, String section, String words) {
        int at = Document.sections().getOrDefault(section, "").indexOf(words);
        Pair.check(section + " says: " + words, at >= 0);
        if (at >= 0) {
            Arrays.fill(told.get(section), at, at + words.length(), true);
        }
    }

    /** The heads of promises, which are code, need not be told. */
    private static void checkAllTold(String section, boolean[] told) {
        String words = Document.sections().get(section);
        int from = section.startsWith("Promise") ? words.indexOf("`: ") + 3 : 0;
        StringBuilder missing = new StringBuilder();
        for (int i = from; i < told.length; i++) {
            missing.append(told[i] ? ' ' : words.charAt(i));
        }
        String left = missing.toString().replaceAll("[^A-Za-z0-9]+", " ").trim();
        Pair.check(section + " has words without a test: " + left, left.isEmpty());
    }
}
