import com.sun.management.ThreadMXBean;
import java.lang.management.ManagementFactory;
import java.lang.reflect.Array;
import java.lang.reflect.Field;
import java.lang.reflect.Modifier;
import java.math.BigInteger;
import java.util.ArrayDeque;
import java.util.Collections;
import java.util.Deque;
import java.util.IdentityHashMap;
import java.util.Random;
import java.util.Set;

/** All calls of one run live in one room: an object at its fullest stays small, and calls make next to nothing. */
final class RoomTest {
    private static final ThreadMXBean THREAD = (ThreadMXBean) ManagementFactory.getThreadMXBean();
    private static final Random RANDOM = new Random(4);

    public static void main(String[] args) throws IllegalAccessException {
        Pair pair = new Pair("a full object");
        Rsa rsa = Rsa.make(2048, 3, 48, RANDOM);
        pair.secretKey(BigInteger.TWO);
        for (int i = 0; i < 5; i++) {
            pair.rsaKey(rsa);
        }
        for (int i = 0; i < 60; i++) {
            pair.put(Pair.random(RANDOM, 64 + 48), rsa.blind(RANDOM)).request(1 + i % 5);
        }
        pair.due(pair.count(2), 60);
        long[] room = measure(pair.x);
        System.out.println("a full object has " + room[0] + " objects and arrays, " + room[1] + " fields and elements");
        Pair.check("objects and arrays", room[0] < 6_000);
        Pair.check("fields and elements", room[1] < 200_000);
        callsMakeNothing(rsa);
        Pair.finish("RoomTest");
    }

    /** How many objects and arrays can be reached, and how many fields and elements they have. */
    private static long[] measure(Object root) throws IllegalAccessException {
        Set<Object> seen = Collections.newSetFromMap(new IdentityHashMap<>());
        Deque<Object> open = new ArrayDeque<>();
        open.add(root);
        seen.add(root);
        long parts = 0;
        while (!open.isEmpty()) {
            Object one = open.remove();
            if (one.getClass().isArray()) {
                int size = Array.getLength(one);
                parts += size;
                for (int i = 0; !one.getClass().getComponentType().isPrimitive() && i < size; i++) {
                    reach(Array.get(one, i), seen, open);
                }
                continue;
            }
            for (Class<?> c = one.getClass(); c != Object.class; c = c.getSuperclass()) {
                for (Field field : c.getDeclaredFields()) {
                    if (!Modifier.isStatic(field.getModifiers())) {
                        parts++;
                        field.setAccessible(true);
                        if (!field.getType().isPrimitive()) {
                            reach(field.get(one), seen, open);
                        }
                    }
                }
            }
        }
        return new long[] {seen.size(), parts};
    }

    private static void reach(Object one, Set<Object> seen, Deque<Object> open) {
        if (one != null && seen.add(one)) {
            open.add(one);
        }
    }

    /** The dearest calls again and again: KEYS and ASKINGS are all that may be made. */
    private static void callsMakeNothing(Rsa rsa) {
        Pair maker = new Pair("a maker");
        maker.secretKey(BigInteger.TWO);
        maker.rsaKey(rsa);
        byte[] asked = {};
        for (int i = 0; i < 8; i++) {
            maker.put(Pair.nonce(i, i), new byte[32], Pair.scalar(i + 1)).request(0);
            asked = i == 0 ? maker.left() : Model.join(asked, Model.slice(maker.left(), 3, 49));
        }
        byte[] request = Model.join(asked, Pair.scalar(5));
        VeilMint x = maker.x;
        int[] answers = new int[6];
        long before = THREAD.getThreadAllocatedBytes(Thread.currentThread().getId());
        for (int i = 0; i < 20; i++) {
            feed(x, request);
            answers[0] = x.issueMany(8);
            x.again(0, x.outs());
            x.feed(0, 0, 0, 0, 0);
            x.end(488);
            x.end(487);
            x.feed(1, 2, 3, 4, 5);
            x.end(488);
            answers[1] = x.finalizeMany(0, 8);
            feed(x, request);
            answers[2] = x.request(0);
            feed(x, request);
            answers[3] = x.redeem();
            feed(x, request);
            answers[4] = x.digest();
            x.again(0, 32);
            answers[5] = x.key(2);
        }
        long made = THREAD.getThreadAllocatedBytes(Thread.currentThread().getId()) - before;
        int[] due = {488, VeilMint.BAD, VeilMint.REFUSED, VeilMint.NO_KEY, 32, VeilMint.REFUSED};
        Pair.check("the answers", java.util.Arrays.equals(answers, due));
        System.out.println("20 rounds of dear calls made " + made + " bytes");
        Pair.check("calls that keep nothing make nothing", made < 20_000);
    }

    private static void feed(VeilMint x, byte[] bytes) {
        for (int i = 0; i < bytes.length; i += 20) {
            x.feed(four(bytes, i), four(bytes, i + 4), four(bytes, i + 8), four(bytes, i + 12), four(bytes, i + 16));
        }
        x.end(bytes.length);
    }

    private static int four(byte[] from, int at) {
        int made = 0;
        for (int i = at; i < at + 4; i++) {
            made = made << 8 | (i < from.length ? from[i] & 255 : 0);
        }
        return made;
    }
}
