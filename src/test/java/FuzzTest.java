import java.math.BigInteger;
import java.util.ArrayList;
import java.util.List;
import java.util.Random;

/** Long runs of calls drawn from a seed, right and wrong ones mixed, on a VeilMint and a Model. */
final class FuzzTest {
    private static final Random MAKE = new Random(7);
    private static final Rsa[] RSAS = {
        Rsa.make(528, 3, 0, MAKE), Rsa.make(521, 17, 0, MAKE), Rsa.make(800, 65537, 48, MAKE),
        Rsa.make(793, 5, 48, MAKE), Rsa.make(560, 65537, 0, MAKE)
    };

    private final Random random;
    private final Pair pair;
    private final List<byte[]> tokens = new ArrayList<>();
    private final List<byte[]> requests = new ArrayList<>();
    private final List<Rsa> rsas = new ArrayList<>();

    private FuzzTest(long seed) {
        random = new Random(seed);
        pair = new Pair("seed " + seed);
    }

    public static void main(String[] args) {
        int runs = args.length > 0 ? Integer.parseInt(args[0]) : 40;
        long from = args.length > 1 ? Long.parseLong(args[1]) : 1;
        for (long seed = from; seed < from + runs; seed++) {
            new FuzzTest(seed).run();
        }
        Pair.finish("FuzzTest");
    }

    private void run() {
        for (int i = 0; i < 120 && Pair.wrong == 0; i++) {
            step(random.nextInt(24));
        }
    }

    private int any(int bound) {
        return random.nextInt(bound + 3) - 1;
    }

    private int odd() {
        return switch (random.nextInt(6)) {
            case 0 -> Integer.MIN_VALUE;
            case 1 -> Integer.MAX_VALUE;
            case 2 -> -1;
            case 3 -> random.nextInt();
            default -> random.nextInt(1300);
        };
    }

    private byte[] maybeBent(byte[] of) {
        if (of.length == 0 || random.nextInt(3) != 0) {
            return of;
        }
        return switch (random.nextInt(4)) {
            case 0 -> Pair.bent(of, random.nextInt(of.length));
            case 1 -> Model.slice(of, 0, random.nextInt(of.length));
            case 2 -> Model.join(of, new byte[1]);
            default -> Pair.bent(of, random.nextInt(Math.min(3, of.length)));
        };
    }

    private byte[] secret() {
        return switch (random.nextInt(12)) {
            case 0 -> Pair.scalar(0);
            case 1 -> Pair.scalar(Model.Q);
            case 2 -> Pair.scalar(Model.Q.subtract(BigInteger.ONE));
            case 3, 4, 5 -> Pair.scalar(1 + random.nextInt(5));
            default -> Pair.scalar(Pair.secret(random));
        };
    }

    private void step(int kind) {
        switch (kind) {
            case 0 -> pair.feed(random.nextInt(), odd(), 0, -1, random.nextInt());
            case 1 -> pair.end(odd());
            case 2 -> pair.again(any(pair.m.out.length), any(pair.m.out.length));
            case 3 -> pair.again(odd(), odd());
            case 4 -> {
                pair.end(0);
                rsas.add(null);
                if (pair.put(maybeBent(secret())).key(1) < 0) {
                    rsas.remove(rsas.size() - 1);
                }
            }
            case 5 -> {
                pair.end(0);
                Rsa rsa = RSAS[random.nextInt(RSAS.length)];
                if (pair.put(maybeBent(rsa.tape())).key(2) >= 0) {
                    rsas.add(rsa);
                }
            }
            case 6 -> {
                if (random.nextInt(4) == 0) {
                    pair.retire(any(6));
                }
            }
            case 7 -> pair.look(any(6), any(5));
            case 8 -> pair.digest();
            case 9, 10, 11, 12 -> request();
            case 13, 14, 15 -> issue();
            case 16, 17 -> finish();
            case 18 -> many();
            case 19, 20, 21 -> redeem();
            case 22 -> pair.cut(random.nextInt(4) == 0 ? odd() : random.nextInt(4));
            default -> pair.power();
        }
    }

    private void request() {
        int key = any(pair.m.keys.size());
        pair.end(0);
        byte[] nonce = Pair.nonce(random.nextInt(3) * 111L, random.nextInt(3));
        Rsa rsa = key >= 0 && key < rsas.size() ? rsas.get(key) : null;
        byte[] rest = rsa == null ? secret() : Model.join(Pair.random(random, rsa.salt), rsa.blind(random));
        if (pair.put(nonce, Pair.random(random, 32), maybeBent(rest)).request(key) >= 0) {
            requests.add(pair.left());
        }
    }

    private void issue() {
        pair.end(0);
        byte[] request = requests.isEmpty() ? new byte[3] : requests.get(random.nextInt(requests.size()));
        boolean oprf = request[1] == 1;
        int answer = pair.put(maybeBent(request), oprf ? secret() : new byte[0]).issue();
        if (answer > 0 && random.nextInt(4) != 0) {
            int open = 0;
            byte[] made = pair.left();
            for (int i = 0; i < pair.m.askings.size(); i++) {
                open = pair.m.askings.get(i).open && random.nextInt(3) != 0 ? i : open;
            }
            pair.end(0);
            if (pair.put(maybeBent(made)).finalize(open) > 0 || pair.m.out.length > 200) {
                tokens.add(pair.left());
            }
        }
    }

    /** An ANSWER to just the REQUEST of one ASKING. */
    private void finish() {
        int asking = any(pair.m.askings.size());
        if (asking < 0 || asking >= pair.m.askings.size() || asking >= requests.size()) {
            pair.finalize(asking);
            return;
        }
        byte[] request = requests.get(asking);
        pair.end(0);
        if (pair.put(request, request[1] == 1 ? Pair.scalar(Pair.secret(random)) : new byte[0]).issue() > 0
            && pair.put(maybeBent(pair.left())).finalize(asking) > 0) {
            tokens.add(pair.left());
        }
    }

    private void many() {
        int count = pair.m.askings.size();
        int many = 1 + random.nextInt(3);
        int first = any(count);
        pair.end(0);
        byte[] asked = new byte[] {0, 1, 0};
        for (int i = first; i >= 0 && i < first + many && i < requests.size(); i++) {
            byte[] one = requests.get(i);
            asked[2] = one[2];
            asked = Model.join(asked, Model.slice(one, 3, Math.min(49, one.length - 3)));
        }
        pair.put(asked, secret()).issueMany(random.nextInt(9) == 0 ? odd() : many);
        byte[] answer = pair.left();
        pair.end(0);
        if (pair.put(maybeBent(answer)).finalizeMany(first, many) > 0 && pair.m.out.length % 146 == 0) {
            tokens.add(Model.slice(pair.left(), 0, 146));
        }
    }

    private void redeem() {
        pair.end(0);
        byte[] token = tokens.isEmpty() ? new byte[98] : tokens.get(random.nextInt(tokens.size()));
        pair.put(maybeBent(token)).redeem();
    }
}
