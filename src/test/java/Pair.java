import java.math.BigInteger;
import java.util.ArrayList;
import java.util.Arrays;
import java.util.List;
import java.util.Map;
import java.util.NoSuchElementException;
import java.util.Random;
import java.util.TreeMap;
import java.util.function.IntSupplier;

/** A VeilMint and a Model side by side: each call is made on both, answers and all that can be seen are compared. */
final class Pair {
    /** Stands for NoSuchElementException among the answers. */
    static final int THROWN = 1 << 20;
    static final byte[] DIGEST = Model.h2(new byte[0]);
    static int wrong = 0;
    static int calls = 0;
    /** How often each call came to each kind of answer: to see that a test reaches what it is for. */
    static final Map<String, Integer> TALLY = new TreeMap<>();

    final VeilMint x = new VeilMint();
    final Model m = new Model();
    private final String name;
    private final List<String> log = new ArrayList<>();

    Pair(String name) {
        this.name = name;
        compareState("new");
    }

    static void finish(String test) {
        if (Boolean.getBoolean("tally")) {
            System.out.println(TALLY);
        }
        System.out.println(test + ": " + calls + " calls, " + wrong + " wrong");
        System.exit(wrong == 0 ? 0 : 1);
    }

    static void check(String what, boolean holds) {
        calls++;
        if (!holds) {
            wrong++;
            System.out.println("does not hold: " + what);
        }
    }

    private void complain(String call, String text) {
        wrong++;
        if (wrong <= 20) {
            System.out.println(name + ": " + call + " " + text);
        }
        if (wrong <= 2) {
            System.out.println("  the calls before: " + log.subList(Math.max(0, log.size() - 30), log.size()));
        }
        if (Boolean.getBoolean("stop")) {
            System.exit(1);
        }
    }

    private static int answer(IntSupplier call) {
        try {
            return call.getAsInt();
        } catch (NoSuchElementException e) {
            return THROWN;
        }
    }

    private int both(String call, IntSupplier of, IntSupplier due) {
        calls++;
        int got = answer(of);
        int want = answer(due);
        if (got != want) {
            complain(call, "answered " + got + ", due is " + want);
        }
        compareState(call);
        TALLY.merge(call.substring(0, call.indexOf('(')) + " " + (got == THROWN ? "thrown" : Math.min(got, 1)), 1,
            Integer::sum);
        log.add(call + "=" + got);
        return got;
    }

    private void compareState(String call) {
        if (x.outs() != m.out.length) {
            complain(call, "left " + x.outs() + " bytes, due are " + m.out.length);
        }
        for (int i = -1; i <= m.out.length; i++) {
            if (x.out(i) != m.out(i)) {
                complain(call, "left byte " + i + " " + x.out(i) + ", due is " + m.out(i));
                break;
            }
        }
        for (int i = -1; i <= 10; i++) {
            if (x.count(i) != m.count(i)) {
                complain(call, "made count(" + i + ") " + x.count(i) + ", due is " + m.count(i));
            }
        }
        for (int i = 0; i < 4096; i++) {
            if (x.disk(i) != m.disk(i)) {
                complain(call, "made disk(" + i + ") " + x.disk(i) + ", due is " + m.disk(i));
                break;
            }
        }
    }

    /** Says so if the latest answer is not the one written down in the test. */
    void due(int got, int want) {
        if (got != want) {
            complain(log.isEmpty() ? "new" : log.get(log.size() - 1), "is not as written, " + want);
        }
    }

    void due(boolean got, boolean want) {
        due(got ? 1 : 0, want ? 1 : 0);
    }

    int feed(int a, int b, int c, int d, int e) {
        return both("feed(" + a + ", " + b + ", " + c + ", " + d + ", " + e + ")",
            () -> x.feed(a, b, c, d, e), () -> m.feed(a, b, c, d, e));
    }

    boolean end(int n) {
        return both("end(" + n + ")", () -> x.end(n) ? 1 : 0, () -> m.end(n) ? 1 : 0) == 1;
    }

    int again(int from, int many) {
        return both("again(" + from + ", " + many + ")", () -> x.again(from, many), () -> m.again(from, many));
    }

    int out(int i) {
        return both("out(" + i + ")", () -> x.out(i), () -> m.out(i));
    }

    int outs() {
        return both("outs()", x::outs, m::outs);
    }

    int key(int type) {
        return both("key(" + type + ")", () -> x.key(type), () -> m.key(type));
    }

    int retire(int key) {
        return both("retire(" + key + ")", () -> x.retire(key) ? 1 : 0, () -> m.retire(key) ? 1 : 0);
    }

    int look(int key, int what) {
        return both("look(" + key + ", " + what + ")", () -> x.look(key, what), () -> m.look(key, what));
    }

    int digest() {
        return both("digest()", x::digest, m::digest);
    }

    int request(int key) {
        return both("request(" + key + ")", () -> x.request(key), () -> m.request(key));
    }

    int issue() {
        return both("issue()", x::issue, m::issue);
    }

    int issueMany(int many) {
        return both("issueMany(" + many + ")", () -> x.issueMany(many), () -> m.issueMany(many));
    }

    int finalize(int asking) {
        return both("finalize(" + asking + ")", () -> x.finalize(asking), () -> m.finalize(asking));
    }

    int finalizeMany(int asking, int many) {
        return both("finalizeMany(" + asking + ", " + many + ")",
            () -> x.finalizeMany(asking, many), () -> m.finalizeMany(asking, many));
    }

    int redeem() {
        return both("redeem()", x::redeem, m::redeem);
    }

    boolean cut(int writes) {
        return both("cut(" + writes + ")", () -> x.cut(writes) ? 1 : 0, () -> m.cut(writes) ? 1 : 0) == 1;
    }

    int power() {
        return both("power()", x::power, m::power);
    }

    int disk(int i) {
        return both("disk(" + i + ")", () -> x.disk(i), () -> m.disk(i));
    }

    int count(int what) {
        return both("count(" + what + ")", () -> x.count(what), () -> m.count(what));
    }

    // ---- runs of calls that tests have in common ----

    /** Puts these bytes, all of them one behind the other, behind the TAPE. */
    Pair put(byte[]... parts) {
        byte[] all = Model.join(parts);
        int want = m.tape.length + all.length;
        byte[] padded = Arrays.copyOf(all, (all.length + 19) / 20 * 20);
        for (int i = 0; i < padded.length; i += 20) {
            feed(four(padded, i), four(padded, i + 4), four(padded, i + 8), four(padded, i + 12), four(padded, i + 16));
        }
        end(want);
        return this;
    }

    private static int four(byte[] from, int at) {
        return Model.number(Model.slice(from, at, 4)).intValue();
    }

    /** OUT as it is due. */
    byte[] left() {
        return m.out.clone();
    }

    /** OUT as it is. */
    byte[] seen() {
        byte[] all = new byte[x.outs()];
        for (int i = 0; i < all.length; i++) {
            all[i] = (byte) x.out(i);
        }
        return all;
    }

    /** All that can be seen but the TAPE, and that seeing does not change. */
    String state() {
        StringBuilder all = new StringBuilder(Arrays.toString(seen()));
        for (int what = 0; what <= 9; what++) {
            all.append(' ').append(what == 8 ? 0 : x.count(what));
        }
        for (int i = 0; i < 4096; i++) {
            all.append(' ').append(x.disk(i));
        }
        for (int key = 0; key < x.count(0); key++) {
            all.append(' ').append(x.look(key, 2)).append(x.look(key, 3)).append(x.look(key, 4));
        }
        return all.toString();
    }

    int secretKey(BigInteger secret) {
        return put(scalar(secret)).key(1);
    }

    int rsaKey(Rsa rsa) {
        return put(rsa.tape()).key(2);
    }

    /** From a wish to the TOKEN of a KEY of TYPE 1. */
    byte[] token(int key, byte[] nonce, long seed) {
        Random random = new Random(seed);
        int asking = put(nonce, random(random, 32), scalar(secret(random))).request(key);
        put(left(), scalar(secret(random))).issue();
        put(left()).finalize(asking);
        return left();
    }

    /** Likewise of TYPE 2. */
    byte[] signedToken(int key, Rsa rsa, byte[] nonce, long seed) {
        Random random = new Random(seed);
        int asking = put(nonce, random(random, 32), random(random, rsa.salt), rsa.blind(random)).request(key);
        put(left()).issue();
        put(left()).finalize(asking);
        return left();
    }

    /** What a REQUEST for this KEY begins with. */
    byte[] head(int key) {
        Model.Key k = m.keys.get(key);
        return new byte[] {0, (byte) k.type, k.id[31]};
    }

    byte[] input(int key, byte[] nonce) {
        Model.Key k = m.keys.get(key);
        return Model.join(Model.bytes(k.type, 2), nonce, DIGEST, k.id);
    }

    /** A TOKEN of a KEY of either TYPE, made by the issuer's own secret. */
    byte[] ownToken(int key, byte[] nonce) {
        Model.Key k = m.keys.get(key);
        byte[] input = input(key, nonce);
        if (k.type == 1) {
            return Model.join(input, Model.output(input, Model.times(k.secret, Model.hashToGroup(input))));
        }
        BigInteger code = Model.number(Model.encode(input, new byte[k.salt], k.n.bitLength() - 1));
        return Model.join(input, Model.bytes(code.modPow(k.secret, k.n), k.len));
    }

    /** Puts what an ASKING of a KEY of either TYPE needs on the TAPE; its salt is of zeros. */
    Pair wish(int key, byte[] nonce, BigInteger blind) {
        Model.Key k = m.keys.get(key);
        return put(nonce, DIGEST, new byte[k.salt], Model.bytes(blind, k.len));
    }

    /** The ANSWER to the REQUEST that OUT is, by a SECRET if it is of TYPE 1. */
    byte[] answerTo(long secret) {
        byte[] request = left();
        put(request, request[1] == 1 ? scalar(secret) : new byte[0]).issue();
        return left();
    }

    static byte[] scalar(BigInteger v) {
        return Model.bytes(v, 48);
    }

    static byte[] scalar(long v) {
        return Model.bytes(v, 48);
    }

    static BigInteger secret(Random random) {
        return new BigInteger(383, random).add(BigInteger.ONE);
    }

    static byte[] random(Random random, int many) {
        byte[] made = new byte[many];
        random.nextBytes(made);
        return made;
    }

    static byte[] nonce(long first, long rest) {
        return Model.join(Model.bytes(first, 4), Model.bytes(rest, 28));
    }

    /** The same bytes but for one bit. */
    static byte[] bent(byte[] of, int at) {
        byte[] made = of.clone();
        made[at] ^= 1;
        return made;
    }
}
