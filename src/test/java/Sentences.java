import java.lang.reflect.InvocationTargetException;
import java.lang.reflect.Method;
import java.math.BigInteger;
import java.util.Arrays;
import java.util.Comparator;
import java.util.List;
import java.util.Random;
import java.util.stream.Stream;

/** What tests that stand for sentences of the document have in common, and how they are run. */
abstract class Sentences {
    static final int MIN = Integer.MIN_VALUE;
    static final int MAX = Integer.MAX_VALUE;
    static final int THROWN = Pair.THROWN;
    static final int NONE = Model.NONE;
    static final int REFUSED = Model.REFUSED;
    static final int NO_KEY = Model.NO_KEY;
    static final int BAD = Model.BAD;
    static final int SPENT = Model.SPENT;
    static final int FULL = Model.FULL;
    static final int DOWN = Model.DOWN;
    static final BigInteger ZERO = BigInteger.ZERO;
    static final BigInteger ONE = BigInteger.ONE;
    static final BigInteger TWO = BigInteger.TWO;
    static final BigInteger P = Model.P;
    static final BigInteger Q = Model.Q;
    /** The largest number of 48 bytes. */
    static final BigInteger MOST = ONE.shiftLeft(384).subtract(ONE);
    static final byte[] DIGEST = Pair.DIGEST;
    static final byte[] NONCE = Pair.nonce(5, 5);
    /** The two lengths of salts, each with the fewest bytes that it may have; and the most bytes that there may be. */
    static final Rsa PLAIN = Rsa.make(528, 3, 0, new Random(21));
    static final Rsa SALTED = Rsa.make(800, 65537, 48, new Random(22));
    static final Rsa LARGEST = Rsa.make(2048, 65537, 48, new Random(23));
    /** So small a modulus of its length that twice its size still has a place in as many bytes. */
    static final Rsa LOW = Rsa.makePrime(ONE.shiftLeft(520).add(BigInteger.valueOf(12345)), 3, 0);

    static List<Method> testsOf(Class<?> tests) {
        Comparator<Method> order = Comparator.comparingInt(one -> Document.rankOf(sentenceOf(one).of()));
        return Stream.of(tests.getDeclaredMethods())
            .filter(one -> sentenceOf(one) != null)
            .sorted(order.thenComparing(one -> Document.placeOf(sentenceOf(one))).thenComparing(Method::getName))
            .toList();
    }

    static Sentence sentenceOf(Method test) {
        return test.getAnnotation(Sentence.class);
    }

    /** Runs each test of the class on a new object, in the order of the document. */
    static void run(Class<?> tests) {
        for (Method test : testsOf(tests)) {
            Sentence sentence = sentenceOf(test);
            int before = Pair.wrong;
            runOne(test, new Pair(sentence.of() + ", " + test.getName()));
            System.out.println((Pair.wrong == before ? "  ok      " : "  FAILED  ") + sentence.of() + ": "
                + sentence.says());
        }
        Pair.finish(tests.getName());
    }

    private static void runOne(Method test, Pair pair) {
        try {
            test.invoke(null, pair);
        } catch (InvocationTargetException e) {
            Pair.check(test.getName() + " came to " + e.getCause(), false);
        } catch (IllegalAccessException e) {
            throw new IllegalStateException(e);
        }
    }

    /** Bytes that are all the same: any part of them of 48 bytes is a SECRET, and below each modulus from 2 on. */
    static byte[] ones(int many) {
        byte[] made = new byte[many];
        Arrays.fill(made, (byte) 1);
        return made;
    }

    static byte[] some(int many) {
        return Pair.random(new Random(many), many);
    }

    /** An odd number of so many bytes that begins with this one. */
    static BigInteger modulus(int len, int first) {
        byte[] made = some(len);
        made[0] = (byte) first;
        made[len - 1] |= 1;
        return Model.number(made);
    }

    /** The answer that is due, and nothing on the TAPE behind it. */
    static void usedUp(Pair pair, int got, int want) {
        pair.due(got, want);
        pair.due(pair.count(8), 0);
    }

    static void sameBytes(String what, byte[] got, byte[] want) {
        Pair.check(what, Arrays.equals(got, want));
    }
}
