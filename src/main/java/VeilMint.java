import java.util.Arrays;
import java.util.NoSuchElementException;

/**
 * A mint of tokens that tell nothing of who asked for them: holders blind what they ask for, the issuer signs or
 * evaluates it unseen, holders take the blind away, and a redeemer takes each token once, by a table on a disk.
 */
public final class VeilMint {
    public static final int NONE = -1;
    public static final int REFUSED = -2;
    public static final int NO_KEY = -3;
    public static final int BAD = -4;
    public static final int SPENT = -5;
    public static final int FULL = -6;
    public static final int DOWN = -9;

    private static final int OPRF = 1;
    private static final int RSA = 2;
    private static final int MOST_KEYS = 6;
    private static final int MOST_ASKINGS = 60;
    private static final int MOST_AT_ONCE = 8;
    private static final int MOST_CUT = 1000;
    private static final int TAPE_ROOM = 1200;
    private static final int NONCE = 32;
    private static final int ID = 32;
    private static final int H2_SIZE = 32;
    private static final int H3_SIZE = 48;
    private static final int SCALAR = 48;
    private static final int ELEMENT = 49;
    private static final int PROOF = 2 * SCALAR;
    /** What stands ahead of the blinded bytes of a REQUEST: the TYPE and a byte of the KEY ID. */
    private static final int HEAD = 3;
    /** NONCE and DIGEST, as a holder gives them. */
    private static final int WISH = 64;
    private static final int INPUT = 98;
    /** The largest OUT: eight TOKENS of TYPE 1. */
    private static final int OUT_ROOM = MOST_AT_ONCE * (INPUT + H3_SIZE);

    private final Row tape = new Row(TAPE_ROOM);
    private final Row left = new Row(OUT_ROOM);
    /** A call that fails must leave OUT alone, so answers are made here first. */
    private final Row draft = new Row(OUT_ROOM);
    private final Hash hash = new Hash();
    private final Oprf oprf = new Oprf();
    private final BlindRsa rsa = new BlindRsa();
    private final SpentDisk spent = new SpentDisk();
    private final Key[] keys = new Key[MOST_KEYS];
    private final Asking[] askings = new Asking[MOST_ASKINGS];
    private int keyCount = 0;
    private int askingCount = 0;
    private int redeemed = 0;

    public VeilMint() {
    }

    public int feed(int a, int b, int c, int d, int e) {
        if (!tape.hasRoom(20)) {
            return NONE;
        }
        tape.putNumber(a, 4);
        tape.putNumber(b, 4);
        tape.putNumber(c, 4);
        tape.putNumber(d, 4);
        tape.putNumber(e, 4);
        return tape.size;
    }

    public boolean end(int n) {
        if (n < 0 || n > tape.size) {
            return false;
        }
        tape.size = n;
        return true;
    }

    public int again(int from, int many) {
        if (from < 0 || many < 0 || from > left.size - many || !tape.hasRoom(many)) {
            return NONE;
        }
        tape.putAll(left.bytes, from, many);
        return tape.size;
    }

    public int out(int i) {
        return i >= 0 && i < left.size ? left.bytes[i] & 255 : NONE;
    }

    public int outs() {
        return left.size;
    }

    public int key(int type) {
        int size = useUpTape();
        boolean fits = false;
        if (type == OPRF) {
            fits = size == SCALAR && oprf.isSecret(tape.bytes, 0);
        } else if (type == RSA) {
            fits = BlindRsa.isKey(tape.bytes, size);
        }
        if (!fits) {
            return REFUSED;
        }
        if (keyCount >= MOST_KEYS) {
            return FULL;
        }
        Key made = type == OPRF ? oprf.makeKey(tape.bytes) : BlindRsa.makeKey(tape.bytes, size);
        draft.clear();
        draft.putAll(made.shown, 0, made.shown.length);
        if (type == RSA) {
            draft.putByte(made.salt);
        }
        hash.h2(draft, made.id);
        keys[keyCount] = made;
        keyCount++;
        return keyCount - 1;
    }

    public boolean retire(int key) throws NoSuchElementException {
        Key found = keyAt(key);
        if (found == null) {
            throw new NoSuchElementException("no such KEY");
        }
        boolean was = found.live;
        found.live = false;
        return was;
    }

    public int look(int key, int what) throws NoSuchElementException {
        Key found = keyAt(key);
        if (found == null) {
            throw new NoSuchElementException("no such KEY");
        }
        switch (what) {
            case 0:
                return leave(found.id, ID);
            case 1:
                return leave(found.shown, found.shown.length);
            case 2:
                return found.type;
            case 3:
                return found.live ? 1 : 0;
            case 4:
                return found.size;
            default:
                throw new NoSuchElementException("no such thing to look at");
        }
    }

    public int digest() {
        hash.h2(tape, draft.bytes);
        useUpTape();
        return leave(draft.bytes, H2_SIZE);
    }

    public int request(int key) {
        int size = useUpTape();
        Key found = keyAt(key);
        if (found == null || !found.live) {
            return NO_KEY;
        }
        if (size != WISH + found.salt + found.size) {
            return REFUSED;
        }
        if (askingCount >= MOST_ASKINGS) {
            return FULL;
        }
        draft.clear();
        draft.putNumber(found.type, 2);
        draft.putAll(tape.bytes, 0, WISH);
        draft.putAll(found.id, 0, ID);
        boolean blinded = found.type == OPRF
            ? oprf.blind(draft.bytes, tape.bytes, WISH)
            : rsa.blind(found, draft.bytes, tape.bytes, WISH);
        if (!blinded) {
            return BAD;
        }
        Asking made = found.type == OPRF
            ? new Asking(found, draft.bytes, oprf.blinded, oprf.inverse)
            : new Asking(found, draft.bytes, rsa.blinded, rsa.inverse);
        askings[askingCount] = made;
        askingCount++;
        left.clear();
        left.putNumber(found.type, 2);
        left.putByte(found.id[ID - 1]);
        left.putAll(made.blinded, 0, made.blinded.length);
        return askingCount - 1;
    }

    public int issue() {
        int size = useUpTape();
        int type = typeOfTape(size, HEAD);
        if (type == NONE) {
            return REFUSED;
        }
        Key found = liveByLastByte(type);
        if (found == null) {
            return NO_KEY;
        }
        if (size != HEAD + (type == OPRF ? ELEMENT + SCALAR : found.size)) {
            return REFUSED;
        }
        if (type == OPRF) {
            return oprf.evaluate(found, tape.bytes, 1) ? leave(oprf.answer.bytes, oprf.answer.size) : BAD;
        }
        return rsa.sign(found, tape.bytes, HEAD) ? leave(rsa.signed, found.size) : BAD;
    }

    public int issueMany(int many) {
        int size = useUpTape();
        if (typeOfTape(size, HEAD) != OPRF || many < 1 || many > MOST_AT_ONCE) {
            return REFUSED;
        }
        Key found = liveByLastByte(OPRF);
        if (found == null) {
            return NO_KEY;
        }
        if (size != HEAD + many * ELEMENT + SCALAR) {
            return REFUSED;
        }
        return oprf.evaluate(found, tape.bytes, many) ? leave(oprf.answer.bytes, oprf.answer.size) : BAD;
    }

    public int finalize(int asking) throws NoSuchElementException {
        int size = useUpTape();
        if (!areOpen(asking, 1)) {
            throw new NoSuchElementException("no such open ASKING");
        }
        Asking one = askings[asking];
        if (size != (one.key.type == OPRF ? ELEMENT + PROOF : one.key.size)) {
            return REFUSED;
        }
        if (one.key.type == OPRF) {
            remindOf(asking, 1);
            return oprf.isProved(one.key, tape.bytes, 1) ? takeOutputs(asking, 1) : BAD;
        }
        return rsa.unblind(one, tape.bytes) ? takeSignature(one) : BAD;
    }

    public int finalizeMany(int asking, int many) throws NoSuchElementException {
        int size = useUpTape();
        if (many < 1 || many > MOST_AT_ONCE || !areOpen(asking, many)) {
            throw new NoSuchElementException("no such open ASKINGS");
        }
        Key one = askings[asking].key;
        for (int i = 1; i < many; i++) {
            if (askings[asking + i].key != one) {
                return REFUSED;
            }
        }
        if (one.type != OPRF || size != many * ELEMENT + PROOF) {
            return REFUSED;
        }
        remindOf(asking, many);
        return oprf.isProved(one, tape.bytes, many) ? takeOutputs(asking, many) : BAD;
    }

    public int redeem() {
        int size = useUpTape();
        if (spent.down) {
            return DOWN;
        }
        int type = typeOfTape(size, INPUT);
        if (size < INPUT) {
            return REFUSED;
        }
        Key found = liveById(type);
        if (found == null) {
            return NO_KEY;
        }
        if (size != INPUT + found.size) {
            return REFUSED;
        }
        boolean right = type == OPRF ? oprf.isOutput(found, tape.bytes) : rsa.isSigned(found, tape.bytes);
        if (!right) {
            return BAD;
        }
        int answer = spent.spend(tape.bytes, 2);
        if (answer == 0) {
            redeemed++;
        }
        return answer;
    }

    public boolean cut(int writes) {
        if (writes < 0 || writes > MOST_CUT || spent.down) {
            return false;
        }
        spent.writesLeft = writes;
        return true;
    }

    public int power() {
        spent.down = false;
        spent.writesLeft = NONE;
        return spent.spentNonces();
    }

    public int disk(int i) {
        return i >= 0 && i < spent.bytes.length ? spent.bytes[i] & 255 : NONE;
    }

    public int count(int what) {
        switch (what) {
            case 0:
                return keyCount;
            case 1:
                return liveKeys();
            case 2:
                return askingCount;
            case 3:
                return openAskings();
            case 4:
                return spent.spentNonces();
            case 5:
                return spent.writes;
            case 6:
                return spent.down ? 1 : 0;
            case 7:
                return spent.writesLeft;
            case 8:
                return tape.size;
            case 9:
                return redeemed;
            default:
                return NONE;
        }
    }

    /** The bytes stay where they are till the next feed(), so the call can still read them. */
    private int useUpTape() {
        int size = tape.size;
        tape.clear();
        return size;
    }

    private int leave(byte[] from, int many) {
        left.clear();
        left.putAll(from, 0, many);
        return many;
    }

    private Key keyAt(int i) {
        return i >= 0 && i < keyCount ? keys[i] : null;
    }

    /** The TYPE that the TAPE begins with; NONE if it is none, or the TAPE had fewer bytes than it must. */
    private int typeOfTape(int size, int fewest) {
        if (size < fewest || tape.bytes[0] != 0) {
            return NONE;
        }
        int type = tape.bytes[1];
        return type == OPRF || type == RSA ? type : NONE;
    }

    private Key liveByLastByte(int type) {
        for (int i = 0; i < keyCount; i++) {
            Key one = keys[i];
            if (one.live && one.type == type && one.id[ID - 1] == tape.bytes[2]) {
                return one;
            }
        }
        return null;
    }

    private Key liveById(int type) {
        for (int i = 0; i < keyCount; i++) {
            Key one = keys[i];
            if (one.live && one.type == type && Row.same(one.id, 0, tape.bytes, INPUT - ID, ID)) {
                return one;
            }
        }
        return null;
    }

    private int liveKeys() {
        int live = 0;
        for (int i = 0; i < keyCount; i++) {
            live += keys[i].live ? 1 : 0;
        }
        return live;
    }

    private int openAskings() {
        int open = 0;
        for (int i = 0; i < askingCount; i++) {
            open += askings[i].open ? 1 : 0;
        }
        return open;
    }

    private boolean areOpen(int first, int many) {
        if (first < 0 || first > askingCount - many) {
            return false;
        }
        for (int i = first; i < first + many; i++) {
            if (!askings[i].open) {
                return false;
            }
        }
        return true;
    }

    private void remindOf(int first, int many) {
        for (int i = 0; i < many; i++) {
            oprf.remind(i, askings[first + i].blinded);
        }
    }

    /** OUT becomes the TOKENS of ASKINGS of TYPE 1 whose ANSWER has just been proved. */
    private int takeOutputs(int first, int many) {
        left.clear();
        for (int i = 0; i < many; i++) {
            Asking one = askings[first + i];
            oprf.unblind(i, one);
            one.open = false;
            left.putAll(one.input, 0, INPUT);
            left.putAll(oprf.output, 0, H3_SIZE);
        }
        return left.size;
    }

    /** OUT becomes the TOKEN of an ASKING of TYPE 2 whose signature is right. */
    private int takeSignature(Asking one) {
        one.open = false;
        left.clear();
        left.putAll(one.input, 0, INPUT);
        left.putAll(rsa.signed, 0, one.key.size);
        return left.size;
    }

    /** A row of bytes that is filled from the front, never beyond its room. */
    private static final class Row {
        final byte[] bytes;
        int size = 0;

        Row(int room) {
            bytes = new byte[room];
        }

        static boolean same(byte[] a, int at, byte[] b, int bt, int many) {
            for (int i = 0; i < many; i++) {
                if (a[at + i] != b[bt + i]) {
                    return false;
                }
            }
            return true;
        }

        /** Whether the number of so many bytes in a is below that in b. */
        static boolean isLess(byte[] a, int at, byte[] b, int bt, int many) {
            for (int i = 0; i < many; i++) {
                int x = a[at + i] & 255;
                int y = b[bt + i] & 255;
                if (x != y) {
                    return x < y;
                }
            }
            return false;
        }

        static boolean isZero(byte[] a, int at, int many) {
            for (int i = 0; i < many; i++) {
                if (a[at + i] != 0) {
                    return false;
                }
            }
            return true;
        }

        boolean hasRoom(int many) {
            return many <= bytes.length - size;
        }

        void clear() {
            size = 0;
        }

        void putByte(int value) {
            if (size < bytes.length) {
                bytes[size] = (byte) value;
                size++;
            }
        }

        void putNumber(int value, int many) {
            for (int i = many - 1; i >= 0; i--) {
                putByte(value >> 8 * i);
            }
        }

        void putText(String text) {
            for (int i = 0; i < text.length(); i++) {
                putByte(text.charAt(i));
            }
        }

        void putAll(byte[] from, int at, int many) {
            if (at < 0 || many < 0 || at > from.length - many || !hasRoom(many)) {
                return;
            }
            System.arraycopy(from, at, bytes, size, many);
            size += many;
        }
    }

    /** SHA-256 and SHA-384 of a whole row. */
    private static final class Hash {
        private static final int[] K2 = {
            0x428a2f98, 0x71374491, 0xb5c0fbcf, 0xe9b5dba5, 0x3956c25b, 0x59f111f1, 0x923f82a4, 0xab1c5ed5,
            0xd807aa98, 0x12835b01, 0x243185be, 0x550c7dc3, 0x72be5d74, 0x80deb1fe, 0x9bdc06a7, 0xc19bf174,
            0xe49b69c1, 0xefbe4786, 0x0fc19dc6, 0x240ca1cc, 0x2de92c6f, 0x4a7484aa, 0x5cb0a9dc, 0x76f988da,
            0x983e5152, 0xa831c66d, 0xb00327c8, 0xbf597fc7, 0xc6e00bf3, 0xd5a79147, 0x06ca6351, 0x14292967,
            0x27b70a85, 0x2e1b2138, 0x4d2c6dfc, 0x53380d13, 0x650a7354, 0x766a0abb, 0x81c2c92e, 0x92722c85,
            0xa2bfe8a1, 0xa81a664b, 0xc24b8b70, 0xc76c51a3, 0xd192e819, 0xd6990624, 0xf40e3585, 0x106aa070,
            0x19a4c116, 0x1e376c08, 0x2748774c, 0x34b0bcb5, 0x391c0cb3, 0x4ed8aa4a, 0x5b9cca4f, 0x682e6ff3,
            0x748f82ee, 0x78a5636f, 0x84c87814, 0x8cc70208, 0x90befffa, 0xa4506ceb, 0xbef9a3f7, 0xc67178f2
        };
        private static final int[] START2 = {
            0x6a09e667, 0xbb67ae85, 0x3c6ef372, 0xa54ff53a, 0x510e527f, 0x9b05688c, 0x1f83d9ab, 0x5be0cd19
        };
        private static final long[] K3 = {
            0x428a2f98d728ae22L, 0x7137449123ef65cdL, 0xb5c0fbcfec4d3b2fL, 0xe9b5dba58189dbbcL,
            0x3956c25bf348b538L, 0x59f111f1b605d019L, 0x923f82a4af194f9bL, 0xab1c5ed5da6d8118L,
            0xd807aa98a3030242L, 0x12835b0145706fbeL, 0x243185be4ee4b28cL, 0x550c7dc3d5ffb4e2L,
            0x72be5d74f27b896fL, 0x80deb1fe3b1696b1L, 0x9bdc06a725c71235L, 0xc19bf174cf692694L,
            0xe49b69c19ef14ad2L, 0xefbe4786384f25e3L, 0x0fc19dc68b8cd5b5L, 0x240ca1cc77ac9c65L,
            0x2de92c6f592b0275L, 0x4a7484aa6ea6e483L, 0x5cb0a9dcbd41fbd4L, 0x76f988da831153b5L,
            0x983e5152ee66dfabL, 0xa831c66d2db43210L, 0xb00327c898fb213fL, 0xbf597fc7beef0ee4L,
            0xc6e00bf33da88fc2L, 0xd5a79147930aa725L, 0x06ca6351e003826fL, 0x142929670a0e6e70L,
            0x27b70a8546d22ffcL, 0x2e1b21385c26c926L, 0x4d2c6dfc5ac42aedL, 0x53380d139d95b3dfL,
            0x650a73548baf63deL, 0x766a0abb3c77b2a8L, 0x81c2c92e47edaee6L, 0x92722c851482353bL,
            0xa2bfe8a14cf10364L, 0xa81a664bbc423001L, 0xc24b8b70d0f89791L, 0xc76c51a30654be30L,
            0xd192e819d6ef5218L, 0xd69906245565a910L, 0xf40e35855771202aL, 0x106aa07032bbd1b8L,
            0x19a4c116b8d2d0c8L, 0x1e376c085141ab53L, 0x2748774cdf8eeb99L, 0x34b0bcb5e19b48a8L,
            0x391c0cb3c5c95a63L, 0x4ed8aa4ae3418acbL, 0x5b9cca4f7763e373L, 0x682e6ff3d6b2b8a3L,
            0x748f82ee5defb2fcL, 0x78a5636f43172f60L, 0x84c87814a1f0ab72L, 0x8cc702081a6439ecL,
            0x90befffa23631e28L, 0xa4506cebde82bde9L, 0xbef9a3f7b2c67915L, 0xc67178f2e372532bL,
            0xca273eceea26619cL, 0xd186b8c721c0c207L, 0xeada7dd6cde0eb1eL, 0xf57d4f7fee6ed178L,
            0x06f067aa72176fbaL, 0x0a637dc5a2c898a6L, 0x113f9804bef90daeL, 0x1b710b35131c471bL,
            0x28db77f523047d84L, 0x32caab7b40c72493L, 0x3c9ebe0a15c9bebcL, 0x431d67c49c100d4cL,
            0x4cc5d4becb3e42b6L, 0x597f299cfc657e2aL, 0x5fcb6fab3ad6faecL, 0x6c44198c4a475817L
        };
        private static final long[] START3 = {
            0xcbbb9d5dc1059ed8L, 0x629a292a367cd507L, 0x9159015a3070dd17L, 0x152fecd8f70e5939L,
            0x67332667ffc00b31L, 0x8eb44a8768581511L, 0xdb0c2e0d64f98fa7L, 0x47b5481dbefa4fa4L
        };
        private static final int BLOCK2 = 64;
        private static final int BLOCK3 = 128;

        private final int[] state2 = new int[8];
        private final int[] words2 = new int[64];
        private final long[] state3 = new long[8];
        private final long[] words3 = new long[80];
        private final byte[] block = new byte[BLOCK3];

        Hash() {
        }

        void h2(Row from, byte[] to) {
            System.arraycopy(START2, 0, state2, 0, 8);
            int blocks = (from.size + 8) / BLOCK2 + 1;
            for (int i = 0; i < blocks; i++) {
                fillBlock(from, i * BLOCK2, BLOCK2, i == blocks - 1);
                spreadWords2();
                mix2();
            }
            for (int i = 0; i < H2_SIZE; i++) {
                to[i] = (byte) (state2[i / 4] >> 24 - 8 * (i % 4));
            }
        }

        void h3(Row from, byte[] to) {
            System.arraycopy(START3, 0, state3, 0, 8);
            int blocks = (from.size + 16) / BLOCK3 + 1;
            for (int i = 0; i < blocks; i++) {
                fillBlock(from, i * BLOCK3, BLOCK3, i == blocks - 1);
                spreadWords3();
                mix3();
            }
            for (int i = 0; i < H3_SIZE; i++) {
                to[i] = (byte) (state3[i / 8] >> 56 - 8 * (i % 8));
            }
        }

        private void fillBlock(Row from, int start, int wide, boolean last) {
            for (int i = 0; i < wide; i++) {
                int p = start + i;
                block[i] = p < from.size ? from.bytes[p] : (byte) (p == from.size ? 128 : 0);
            }
            if (last) {
                int bits = 8 * from.size;
                for (int i = 1; i <= 4; i++) {
                    block[wide - i] = (byte) bits;
                    bits >>>= 8;
                }
            }
        }

        private void spreadWords2() {
            int[] w = words2;
            for (int i = 0; i < 16; i++) {
                w[i] = (block[4 * i] & 255) << 24 | (block[4 * i + 1] & 255) << 16
                    | (block[4 * i + 2] & 255) << 8 | block[4 * i + 3] & 255;
            }
            for (int i = 16; i < 64; i++) {
                int x = w[i - 15];
                int y = w[i - 2];
                w[i] = w[i - 16] + w[i - 7]
                    + ((x >>> 7 | x << 25) ^ (x >>> 18 | x << 14) ^ x >>> 3)
                    + ((y >>> 17 | y << 15) ^ (y >>> 19 | y << 13) ^ y >>> 10);
            }
        }

        private void mix2() {
            int[] s = state2;
            int a = s[0], b = s[1], c = s[2], d = s[3], e = s[4], f = s[5], g = s[6], h = s[7];
            for (int i = 0; i < 64; i++) {
                int x = h + ((e >>> 6 | e << 26) ^ (e >>> 11 | e << 21) ^ (e >>> 25 | e << 7))
                    + (e & f ^ ~e & g) + K2[i] + words2[i];
                int y = ((a >>> 2 | a << 30) ^ (a >>> 13 | a << 19) ^ (a >>> 22 | a << 10)) + (a & b ^ a & c ^ b & c);
                h = g;
                g = f;
                f = e;
                e = d + x;
                d = c;
                c = b;
                b = a;
                a = x + y;
            }
            s[0] += a;
            s[1] += b;
            s[2] += c;
            s[3] += d;
            s[4] += e;
            s[5] += f;
            s[6] += g;
            s[7] += h;
        }

        private void spreadWords3() {
            long[] w = words3;
            for (int i = 0; i < 16; i++) {
                long word = 0;
                for (int k = 0; k < 8; k++) {
                    word = word << 8 | block[8 * i + k] & 255;
                }
                w[i] = word;
            }
            for (int i = 16; i < 80; i++) {
                long x = w[i - 15];
                long y = w[i - 2];
                w[i] = w[i - 16] + w[i - 7]
                    + ((x >>> 1 | x << 63) ^ (x >>> 8 | x << 56) ^ x >>> 7)
                    + ((y >>> 19 | y << 45) ^ (y >>> 61 | y << 3) ^ y >>> 6);
            }
        }

        private void mix3() {
            long[] s = state3;
            long a = s[0], b = s[1], c = s[2], d = s[3], e = s[4], f = s[5], g = s[6], h = s[7];
            for (int i = 0; i < 80; i++) {
                long x = h + ((e >>> 14 | e << 50) ^ (e >>> 18 | e << 46) ^ (e >>> 41 | e << 23))
                    + (e & f ^ ~e & g) + K3[i] + words3[i];
                long y = ((a >>> 28 | a << 36) ^ (a >>> 34 | a << 30) ^ (a >>> 39 | a << 25)) + (a & b ^ a & c ^ b & c);
                h = g;
                g = f;
                f = e;
                e = d + x;
                d = c;
                c = b;
                b = a;
                a = x + y;
            }
            s[0] += a;
            s[1] += b;
            s[2] += c;
            s[3] += d;
            s[4] += e;
            s[5] += f;
            s[6] += g;
            s[7] += h;
        }
    }

    /**
     * Numbers modulo an odd one, in limbs of 28 bits, the lowest first: so sums of many products of limbs fit a long.
     * A residue a stands as a R (Montgomery's form), R being 2 to the 28 times as many limbs as there are.
     */
    private static class Modulus {
        static final int BITS = 28;
        static final long MASK = (1L << BITS) - 1;

        final int limbs;
        /** The modulus itself; R (which is 1) and R^2 modulo it; and a plain 1, to come back from Montgomery's form. */
        private final long[] n;
        final long[] one;
        private final long[] square;
        private final long[] unit;
        private final long negInverse;
        private final long[] work;
        private final long[][] spare;

        Modulus(byte[] from, int at, int size) {
            limbs = 8 * size / BITS + 1;
            n = new long[limbs];
            one = new long[limbs];
            square = new long[limbs];
            unit = new long[limbs];
            work = new long[limbs];
            spare = new long[16][limbs];
            unit[0] = 1;
            read(from, at, size, n);
            long x = 1;
            for (int i = 0; i < 5; i++) {
                x *= 2 - n[0] * x;
            }
            negInverse = -x & MASK;
            // Doubling 1 comes by each power of 2: R and R^2 are among them.
            one[0] = 1;
            for (int i = 0; i < BITS * limbs; i++) {
                add(one, one, one);
            }
            copy(one, square);
            for (int i = 0; i < BITS * limbs; i++) {
                add(square, square, square);
            }
        }

        /** A plain number of so many bytes; what is beyond the limbs is lost. */
        static void read(byte[] from, int at, int size, long[] to) {
            Arrays.fill(to, 0);
            long held = 0;
            int bits = 0;
            int limb = 0;
            for (int i = at + size - 1; i >= at && limb < to.length; i--) {
                held |= (from[i] & 255L) << bits;
                bits += 8;
                if (bits >= BITS) {
                    to[limb] = held & MASK;
                    limb++;
                    held >>>= BITS;
                    bits -= BITS;
                }
            }
            if (limb < to.length) {
                to[limb] = held;
            }
        }

        static void write(long[] from, byte[] to, int at, int size) {
            long held = 0;
            int bits = 0;
            int limb = 0;
            for (int i = at + size - 1; i >= at; i--) {
                if (bits < 8 && limb < from.length) {
                    held |= from[limb] << bits;
                    bits += BITS;
                    limb++;
                }
                to[i] = (byte) held;
                held >>>= 8;
                bits -= 8;
            }
        }

        final void copy(long[] from, long[] to) {
            System.arraycopy(from, 0, to, 0, limbs);
        }

        final boolean isZero(long[] a) {
            for (int i = 0; i < limbs; i++) {
                if (a[i] != 0) {
                    return false;
                }
            }
            return true;
        }

        final boolean same(long[] a, long[] b) {
            for (int i = 0; i < limbs; i++) {
                if (a[i] != b[i]) {
                    return false;
                }
            }
            return true;
        }

        private boolean isLess(long[] a, long[] b) {
            for (int i = limbs - 1; i >= 0; i--) {
                if (a[i] != b[i]) {
                    return a[i] < b[i];
                }
            }
            return false;
        }

        /** Whether a plain number is below the modulus. */
        final boolean isAbove(long[] plain) {
            return isLess(plain, n);
        }

        final void enter(long[] plain, long[] to) {
            mul(plain, square, to);
        }

        final void leave(long[] a, long[] plain) {
            mul(a, unit, plain);
        }

        /** A number of more bytes than the limbs (whose bits are whole bytes) hold: what is beyond counts R times. */
        final void enterWide(byte[] from, int at, int size, long[] to) {
            int low = Math.min(size, BITS * limbs / 8);
            read(from, at, size - low, spare[0]);
            read(from, at + size - low, low, spare[1]);
            mul(spare[0], square, spare[0]);
            mul(spare[0], square, spare[0]);
            mul(spare[1], square, spare[1]);
            add(spare[0], spare[1], to);
        }

        final void add(long[] a, long[] b, long[] c) {
            putTogether(a, b, c);
            lower(c);
        }

        final void sub(long[] a, long[] b, long[] c) {
            if (takeAway(a, b, c)) {
                putTogether(c, n, c);
            }
        }

        /** A plain sum, less R where it is not below R. */
        private void putTogether(long[] a, long[] b, long[] c) {
            long carry = 0;
            for (int i = 0; i < limbs; i++) {
                long v = a[i] + b[i] + carry;
                c[i] = v & MASK;
                carry = v >> BITS;
            }
        }

        /** A plain difference: whether it is below 0 (then R is added to it). */
        private boolean takeAway(long[] a, long[] b, long[] c) {
            long carry = 0;
            for (int i = 0; i < limbs; i++) {
                long v = a[i] - b[i] + carry;
                c[i] = v & MASK;
                carry = v >> BITS;
            }
            return carry != 0;
        }

        /** Takes the modulus away once, where the number is not below it. */
        final void lower(long[] c) {
            int i = limbs - 1;
            while (i > 0 && c[i] == n[i]) {
                i--;
            }
            if (c[i] < n[i]) {
                return;
            }
            long carry = 0;
            for (i = 0; i < limbs; i++) {
                long v = c[i] - n[i] + carry;
                c[i] = v & MASK;
                carry = v >> BITS;
            }
        }

        /** c = a b / R; a may be any number below R. */
        void mul(long[] a, long[] b, long[] c) {
            long[] t = work;
            Arrays.fill(t, 0);
            for (int i = 0; i < limbs; i++) {
                long x = a[i];
                long low = t[0] + x * b[0];
                long m = low * negInverse & MASK;
                long carry = low + m * n[0] >>> BITS;
                for (int j = 1; j < limbs; j++) {
                    t[j - 1] = t[j] + x * b[j] + m * n[j];
                }
                t[0] += carry;
            }
            // With 74 limbs the sums pass 2^63, but never 2^64: so they are taken without sign.
            long carry = 0;
            for (int i = 0; i < limbs; i++) {
                long v = t[i] + carry;
                c[i] = v & MASK;
                carry = v >>> BITS;
            }
            lower(c);
        }

        void sqr(long[] a, long[] c) {
            mul(a, a, c);
        }

        /** c = a^e, four bits of e a step; e is of so many bytes. */
        final void raise(long[] a, byte[] e, int at, int size, long[] c) {
            // Only as many powers as the largest digit needs: public exponents need one or two.
            int most = 1;
            for (int i = 0; i < 2 * size; i++) {
                most = Math.max(most, digitAt(e, at, i));
            }
            copy(a, spare[1]);
            for (int k = 2; k <= most; k++) {
                mul(spare[k - 1], spare[1], spare[k]);
            }
            copy(one, c);
            boolean started = false;
            for (int i = 0; i < 2 * size; i++) {
                for (int k = 0; started && k < 4; k++) {
                    sqr(c, c);
                }
                int digit = digitAt(e, at, i);
                if (digit != 0) {
                    mul(c, spare[digit], c);
                    started = true;
                }
            }
        }

        static int digitAt(byte[] e, int at, int i) {
            return (i % 2 == 0 ? e[at + i / 2] >> 4 : e[at + i / 2]) & 15;
        }

        /**
         * The binary greatest common divisor: whether a is coprime to the modulus; c is its inverse then.
         * Each step takes a bit off u or v, x a = u and y a = v (both R^2 times) all the while.
         */
        final boolean invert(long[] a, long[] c) {
            long[] u = spare[0];
            long[] v = spare[1];
            long[] x = spare[2];
            long[] y = spare[3];
            copy(a, u);
            copy(n, v);
            copy(square, x);
            Arrays.fill(y, 0);
            for (int step = 0; step < 2 * BITS * limbs && !isZero(u); step++) {
                if ((u[0] & 1) != 0) {
                    if (isLess(u, v)) {
                        long[] t = u;
                        u = v;
                        v = t;
                        t = x;
                        x = y;
                        y = t;
                    }
                    takeAway(u, v, u);
                    sub(x, y, x);
                }
                halve(u);
                if ((x[0] & 1) != 0) {
                    putTogether(x, n, x);
                }
                halve(x);
            }
            copy(y, c);
            return same(v, unit);
        }

        private void halve(long[] a) {
            for (int i = 0; i < limbs - 1; i++) {
                a[i] = a[i] >> 1 | (a[i + 1] & 1) << BITS - 1;
            }
            a[limbs - 1] >>= 1;
        }
    }

    /** The field of P-384: its prime is so sparse that a multiple of it is added by four shifts. */
    private static final class Field extends Modulus {
        private static final int LIMBS = 14;
        private final long[] w = new long[2 * LIMBS];

        Field(byte[] prime) {
            super(prime, 0, prime.length);
        }

        void mul(long[] a, long[] b, long[] c) {
            long a0 = a[0], a1 = a[1], a2 = a[2], a3 = a[3], a4 = a[4], a5 = a[5], a6 = a[6];
            long a7 = a[7], a8 = a[8], a9 = a[9], a10 = a[10], a11 = a[11], a12 = a[12], a13 = a[13];
            long b0 = b[0], b1 = b[1], b2 = b[2], b3 = b[3], b4 = b[4], b5 = b[5], b6 = b[6];
            long b7 = b[7], b8 = b[8], b9 = b[9], b10 = b[10], b11 = b[11], b12 = b[12], b13 = b[13];
            w[0] = a0 * b0;
            w[1] = a0 * b1 + a1 * b0;
            w[2] = a0 * b2 + a1 * b1 + a2 * b0;
            w[3] = a0 * b3 + a1 * b2 + a2 * b1 + a3 * b0;
            w[4] = a0 * b4 + a1 * b3 + a2 * b2 + a3 * b1 + a4 * b0;
            w[5] = a0 * b5 + a1 * b4 + a2 * b3 + a3 * b2 + a4 * b1 + a5 * b0;
            w[6] = a0 * b6 + a1 * b5 + a2 * b4 + a3 * b3 + a4 * b2 + a5 * b1 + a6 * b0;
            w[7] = a0 * b7 + a1 * b6 + a2 * b5 + a3 * b4 + a4 * b3 + a5 * b2 + a6 * b1 + a7 * b0;
            w[8] = a0 * b8 + a1 * b7 + a2 * b6 + a3 * b5 + a4 * b4 + a5 * b3 + a6 * b2 + a7 * b1 + a8 * b0;
            w[9] = a0 * b9 + a1 * b8 + a2 * b7 + a3 * b6 + a4 * b5 + a5 * b4 + a6 * b3 + a7 * b2 + a8 * b1 + a9 * b0;
            w[10] = a0 * b10 + a1 * b9 + a2 * b8 + a3 * b7 + a4 * b6 + a5 * b5 + a6 * b4 + a7 * b3 + a8 * b2
                + a9 * b1 + a10 * b0;
            w[11] = a0 * b11 + a1 * b10 + a2 * b9 + a3 * b8 + a4 * b7 + a5 * b6 + a6 * b5 + a7 * b4 + a8 * b3
                + a9 * b2 + a10 * b1 + a11 * b0;
            w[12] = a0 * b12 + a1 * b11 + a2 * b10 + a3 * b9 + a4 * b8 + a5 * b7 + a6 * b6 + a7 * b5 + a8 * b4
                + a9 * b3 + a10 * b2 + a11 * b1 + a12 * b0;
            w[13] = a0 * b13 + a1 * b12 + a2 * b11 + a3 * b10 + a4 * b9 + a5 * b8 + a6 * b7 + a7 * b6 + a8 * b5
                + a9 * b4 + a10 * b3 + a11 * b2 + a12 * b1 + a13 * b0;
            w[14] = a1 * b13 + a2 * b12 + a3 * b11 + a4 * b10 + a5 * b9 + a6 * b8 + a7 * b7 + a8 * b6 + a9 * b5
                + a10 * b4 + a11 * b3 + a12 * b2 + a13 * b1;
            w[15] = a2 * b13 + a3 * b12 + a4 * b11 + a5 * b10 + a6 * b9 + a7 * b8 + a8 * b7 + a9 * b6 + a10 * b5
                + a11 * b4 + a12 * b3 + a13 * b2;
            w[16] = a3 * b13 + a4 * b12 + a5 * b11 + a6 * b10 + a7 * b9 + a8 * b8 + a9 * b7 + a10 * b6
                + a11 * b5 + a12 * b4 + a13 * b3;
            w[17] = a4 * b13 + a5 * b12 + a6 * b11 + a7 * b10 + a8 * b9 + a9 * b8 + a10 * b7 + a11 * b6
                + a12 * b5 + a13 * b4;
            w[18] = a5 * b13 + a6 * b12 + a7 * b11 + a8 * b10 + a9 * b9 + a10 * b8 + a11 * b7 + a12 * b6 + a13 * b5;
            w[19] = a6 * b13 + a7 * b12 + a8 * b11 + a9 * b10 + a10 * b9 + a11 * b8 + a12 * b7 + a13 * b6;
            w[20] = a7 * b13 + a8 * b12 + a9 * b11 + a10 * b10 + a11 * b9 + a12 * b8 + a13 * b7;
            w[21] = a8 * b13 + a9 * b12 + a10 * b11 + a11 * b10 + a12 * b9 + a13 * b8;
            w[22] = a9 * b13 + a10 * b12 + a11 * b11 + a12 * b10 + a13 * b9;
            w[23] = a10 * b13 + a11 * b12 + a12 * b11 + a13 * b10;
            w[24] = a11 * b13 + a12 * b12 + a13 * b11;
            w[25] = a12 * b13 + a13 * b12;
            w[26] = a13 * b13;
            reduce(c);
            lower(c);
        }

        void sqr(long[] a, long[] c) {
            long a0 = a[0], a1 = a[1], a2 = a[2], a3 = a[3], a4 = a[4], a5 = a[5], a6 = a[6];
            long a7 = a[7], a8 = a[8], a9 = a[9], a10 = a[10], a11 = a[11], a12 = a[12], a13 = a[13];
            long d0 = 2 * a0, d1 = 2 * a1, d2 = 2 * a2, d3 = 2 * a3, d4 = 2 * a4, d5 = 2 * a5, d6 = 2 * a6;
            long d7 = 2 * a7, d8 = 2 * a8, d9 = 2 * a9, d10 = 2 * a10, d11 = 2 * a11, d12 = 2 * a12;
            w[0] = a0 * a0;
            w[1] = d0 * a1;
            w[2] = d0 * a2 + a1 * a1;
            w[3] = d0 * a3 + d1 * a2;
            w[4] = d0 * a4 + d1 * a3 + a2 * a2;
            w[5] = d0 * a5 + d1 * a4 + d2 * a3;
            w[6] = d0 * a6 + d1 * a5 + d2 * a4 + a3 * a3;
            w[7] = d0 * a7 + d1 * a6 + d2 * a5 + d3 * a4;
            w[8] = d0 * a8 + d1 * a7 + d2 * a6 + d3 * a5 + a4 * a4;
            w[9] = d0 * a9 + d1 * a8 + d2 * a7 + d3 * a6 + d4 * a5;
            w[10] = d0 * a10 + d1 * a9 + d2 * a8 + d3 * a7 + d4 * a6 + a5 * a5;
            w[11] = d0 * a11 + d1 * a10 + d2 * a9 + d3 * a8 + d4 * a7 + d5 * a6;
            w[12] = d0 * a12 + d1 * a11 + d2 * a10 + d3 * a9 + d4 * a8 + d5 * a7 + a6 * a6;
            w[13] = d0 * a13 + d1 * a12 + d2 * a11 + d3 * a10 + d4 * a9 + d5 * a8 + d6 * a7;
            w[14] = d1 * a13 + d2 * a12 + d3 * a11 + d4 * a10 + d5 * a9 + d6 * a8 + a7 * a7;
            w[15] = d2 * a13 + d3 * a12 + d4 * a11 + d5 * a10 + d6 * a9 + d7 * a8;
            w[16] = d3 * a13 + d4 * a12 + d5 * a11 + d6 * a10 + d7 * a9 + a8 * a8;
            w[17] = d4 * a13 + d5 * a12 + d6 * a11 + d7 * a10 + d8 * a9;
            w[18] = d5 * a13 + d6 * a12 + d7 * a11 + d8 * a10 + a9 * a9;
            w[19] = d6 * a13 + d7 * a12 + d8 * a11 + d9 * a10;
            w[20] = d7 * a13 + d8 * a12 + d9 * a11 + a10 * a10;
            w[21] = d8 * a13 + d9 * a12 + d10 * a11;
            w[22] = d9 * a13 + d10 * a12 + a11 * a11;
            w[23] = d10 * a13 + d11 * a12;
            w[24] = d11 * a13 + a12 * a12;
            w[25] = d12 * a13;
            w[26] = a13 * a13;
            reduce(c);
            lower(c);
        }

        /**
         * The wide product divided by R: limb by limb, so many times P is added that the limb becomes 0. As P ends
         * in 28 bits of 1 that is the limb's own value m, and m P = m (2^384 - 2^128 - 2^96 + 2^32 - 1).
         */
        private void reduce(long[] c) {
            w[2 * LIMBS - 1] = 0;
            for (int i = 0; i < LIMBS; i++) {
                long low = w[i];
                long m = low & MASK;
                w[i + 1] += (low >> BITS) + (m << 4);
                w[i + 3] -= m << 12;
                w[i + 4] -= m << 16;
                w[i + 13] += m << 20;
            }
            long carry = 0;
            for (int i = 0; i < LIMBS; i++) {
                long v = w[LIMBS + i] + carry;
                c[i] = v & MASK;
                carry = v >> BITS;
            }
        }
    }

    /** A point in Jacobian coordinates; with z 0 it is none. */
    private static final class Point {
        final long[] x;
        final long[] y;
        final long[] z;

        Point(int limbs) {
            x = new long[limbs];
            y = new long[limbs];
            z = new long[limbs];
        }
    }

    /** The curve P-384: its ELEMENTS, their sums, and the map of numbers to them. */
    private static final class Curve {
        private static final String P =
            "fffffffffffffffffffffffffffffffffffffffffffffffffffffffffffffffeffffffff0000000000000000ffffffff";
        private static final String B =
            "b3312fa7e23ee7e4988e056be3f82d19181d9c6efe8141120314088f5013875ac656398d8a2ed19d2a85c8edd3ec2aef";
        private static final String BASE =
            "03aa87ca22be8b05378eb1c71ef320ad746e1d3b628ba79b9859f741e082542a385502f25dbf55296c3a545e3872760ab7";
        /** (P + 1) / 4: what a square is raised to for its root, as P is 3 modulo 4. */
        private static final String ROOT =
            "3fffffffffffffffffffffffffffffffffffffffffffffffffffffffffffffffbfffffffc00000000000000040000000";
        /** Multiples 1 to 15 of a point serve four bits of its factor. */
        private static final int MULTIPLES = 15;
        /** A place of the table for each ELEMENT of an ANSWER, and two more for the proofs. */
        static final int PAIR = MOST_AT_ONCE;
        private static final int PLACES = PAIR + 2;

        final Field field = new Field(hex(P));
        final Point base = new Point(field.limbs);
        private final byte[] root = hex(ROOT);
        private final long[] zero = new long[field.limbs];
        private final long[] b = new long[field.limbs];
        /** What the map needs: 12 (its Z is - 12), a root of 12, B / 3 and B / 36. */
        private final long[] twelve = new long[field.limbs];
        private final long[] rootOfTwelve = new long[field.limbs];
        private final long[] third = new long[field.limbs];
        private final long[] thirtySixth = new long[field.limbs];
        private final long[][] t = new long[8][field.limbs];
        private final Point[] table = new Point[PLACES * MULTIPLES];

        Curve() {
            Field f = field;
            Modulus.read(hex(B), 0, SCALAR, b);
            f.enter(b, b);
            for (int i = 0; i < 12; i++) {
                f.add(twelve, f.one, twelve);
            }
            f.raise(twelve, root, 0, SCALAR, rootOfTwelve);
            f.add(twelve, twelve, third);
            f.add(third, twelve, third);
            f.invert(third, third);
            f.mul(third, b, thirtySixth);
            f.mul(thirtySixth, twelve, third);
            for (int i = 0; i < table.length; i++) {
                table[i] = new Point(f.limbs);
            }
            decode(hex(BASE), 0, base);
        }

        static byte[] hex(String digits) {
            byte[] made = new byte[digits.length() / 2];
            for (int i = 0; i < made.length; i++) {
                made[i] = (byte) (16 * digit(digits.charAt(2 * i)) + digit(digits.charAt(2 * i + 1)));
            }
            return made;
        }

        private static int digit(char c) {
            return c <= '9' ? c - '0' : c - 'a' + 10;
        }

        /** Whether the 49 bytes are an ELEMENT: to is its point then. */
        boolean decode(byte[] from, int at, Point to) {
            int sign = from[at];
            if (sign != 2 && sign != 3) {
                return false;
            }
            Modulus.read(from, at + 1, SCALAR, to.x);
            if (!field.isAbove(to.x)) {
                return false;
            }
            field.enter(to.x, to.x);
            field.copy(field.one, to.z);
            cubic(to.x, t[0]);
            field.raise(t[0], root, 0, SCALAR, to.y);
            if (!isSquareOf(t[0], to.y)) {
                return false;
            }
            if (isOdd(to.y) != (sign == 3)) {
                field.sub(zero, to.y, to.y);
            }
            return true;
        }

        /** Whether the bytes of an ELEMENT could be made: a point that is none has none. */
        boolean encode(Point p, byte[] to, int at) {
            if (!field.invert(p.z, t[0])) {
                return false;
            }
            field.sqr(t[0], t[1]);
            field.mul(t[1], t[0], t[0]);
            field.mul(p.y, t[0], t[0]);
            field.leave(t[0], t[0]);
            to[at] = (byte) (2 + (t[0][0] & 1));
            field.mul(p.x, t[1], t[1]);
            field.leave(t[1], t[1]);
            Modulus.write(t[1], to, at + 1, SCALAR);
            return true;
        }

        private boolean isOdd(long[] a) {
            field.leave(a, t[7]);
            return (t[7][0] & 1) != 0;
        }

        /** x^3 - 3 x + B */
        private void cubic(long[] x, long[] to) {
            field.sqr(x, to);
            field.sub(to, field.one, to);
            field.sub(to, field.one, to);
            field.sub(to, field.one, to);
            field.mul(to, x, to);
            field.add(to, b, to);
        }

        private boolean isSquareOf(long[] a, long[] y) {
            field.sqr(y, t[7]);
            return field.same(t[7], a);
        }

        /** The simplified SWU map. */
        void mapTo(long[] u, Point p) {
            long[] v = t[0];
            long[] s = t[1];
            field.sqr(u, v);
            field.mul(v, twelve, v);
            field.sub(zero, v, v);
            field.sqr(v, s);
            field.add(s, v, s);
            if (field.invert(s, s)) {
                field.add(s, field.one, s);
                field.mul(s, third, p.x);
            } else {
                field.copy(thirtySixth, p.x);
            }
            field.copy(field.one, p.z);
            cubic(p.x, s);
            field.raise(s, root, 0, SCALAR, p.y);
            if (!isSquareOf(s, p.y)) {
                // Then y is a root of - s, from which that of the other x, v x, comes without drawing a second one.
                field.mul(p.x, v, p.x);
                field.mul(p.y, v, p.y);
                field.mul(p.y, u, p.y);
                field.mul(p.y, rootOfTwelve, p.y);
            }
            if (isOdd(u) != isOdd(p.y)) {
                field.sub(zero, p.y, p.y);
            }
        }

        private void copyPoint(Point from, Point to) {
            field.copy(from.x, to.x);
            field.copy(from.y, to.y);
            field.copy(from.z, to.z);
        }

        void twice(Point p, Point r) {
            Field f = field;
            long[] delta = t[0], gamma = t[1], beta = t[2], alpha = t[3], s = t[4];
            f.sqr(p.z, delta);
            f.sqr(p.y, gamma);
            f.mul(p.x, gamma, beta);
            f.sub(p.x, delta, s);
            f.add(p.x, delta, alpha);
            f.mul(s, alpha, s);
            f.add(s, s, alpha);
            f.add(alpha, s, alpha);
            f.add(p.y, p.z, s);
            f.sqr(s, s);
            f.sub(s, gamma, s);
            f.sub(s, delta, r.z);
            f.add(beta, beta, beta);
            f.add(beta, beta, beta);
            f.add(beta, beta, s);
            f.sqr(alpha, delta);
            f.sub(delta, s, r.x);
            f.sub(beta, r.x, beta);
            f.mul(alpha, beta, beta);
            f.add(gamma, gamma, gamma);
            f.sqr(gamma, gamma);
            f.add(gamma, gamma, gamma);
            f.sub(beta, gamma, r.y);
        }

        void add(Point p, Point q, Point r) {
            Field f = field;
            if (f.isZero(p.z) || f.isZero(q.z)) {
                copyPoint(f.isZero(p.z) ? q : p, r);
                return;
            }
            long[] u = t[2], h = t[3], s = t[4], d = t[5], v = t[6];
            f.sqr(p.z, t[0]);
            f.sqr(q.z, t[1]);
            f.mul(p.x, t[1], u);
            f.mul(q.x, t[0], h);
            f.sub(h, u, h);
            f.mul(p.y, q.z, s);
            f.mul(s, t[1], s);
            f.mul(q.y, p.z, d);
            f.mul(d, t[0], d);
            f.sub(d, s, d);
            if (f.isZero(h)) {
                if (f.isZero(d)) {
                    twice(p, r);
                } else {
                    f.copy(zero, r.z);
                }
                return;
            }
            f.mul(p.z, q.z, v);
            f.mul(v, h, r.z);
            f.sqr(h, t[0]);
            f.mul(h, t[0], t[1]);
            f.mul(u, t[0], v);
            f.sqr(d, t[0]);
            f.sub(t[0], t[1], t[0]);
            f.sub(t[0], v, t[0]);
            f.sub(t[0], v, r.x);
            f.sub(v, r.x, v);
            f.mul(d, v, v);
            f.mul(s, t[1], s);
            f.sub(v, s, r.y);
        }

        /** Puts the multiples of a point at a place of the table. */
        void spread(int place, Point p) {
            int first = place * MULTIPLES;
            copyPoint(p, table[first]);
            for (int k = 2; k <= MULTIPLES; k++) {
                if (k % 2 == 0) {
                    twice(table[first + k / 2 - 1], table[first + k - 1]);
                } else {
                    add(table[first + k - 2], table[first], table[first + k - 1]);
                }
            }
        }

        /** The sum of so many points of the table, each times its factor: one row of doublings serves them all. */
        void combine(int place, int many, byte[] factors, int at, Point r) {
            field.copy(zero, r.z);
            for (int i = 0; i < 2 * SCALAR; i++) {
                for (int k = 0; k < 4 && !field.isZero(r.z); k++) {
                    twice(r, r);
                }
                for (int k = 0; k < many; k++) {
                    int digit = Modulus.digitAt(factors, at + k * SCALAR, i);
                    if (digit != 0) {
                        add(r, table[(place + k) * MULTIPLES + digit - 1], r);
                    }
                }
            }
        }
    }

    /** A KEY of either TYPE. */
    private static final class Key {
        final int type;
        /** LEN: of the secret part and of an AUTHENTICATOR; and what a blinded thing has. */
        final int size;
        final int blindedSize;
        final int salt;
        final byte[] shown;
        final byte[] secret;
        final byte[] id = new byte[ID];
        final Modulus modulus;
        boolean live = true;

        Key(int type, int size, int salt, byte[] shown, byte[] secret, Modulus modulus) {
            this.type = type;
            this.size = size;
            this.blindedSize = type == OPRF ? ELEMENT : size;
            this.salt = salt;
            this.shown = shown;
            this.secret = secret;
            this.modulus = modulus;
        }
    }

    /** What a holder remembers of one ASKING; of the blind its inverse, which is all that is used of it. */
    private static final class Asking {
        final Key key;
        final byte[] input;
        final byte[] blinded;
        final byte[] inverse;
        boolean open = true;

        Asking(Key key, byte[] input, byte[] blinded, byte[] inverse) {
            this.key = key;
            this.input = Arrays.copyOf(input, INPUT);
            this.blinded = Arrays.copyOf(blinded, key.blindedSize);
            this.inverse = Arrays.copyOf(inverse, key.size);
        }
    }

    /** TYPE 1: the oblivious function with proofs. */
    private static final class Oprf {
        private static final String Q =
            "ffffffffffffffffffffffffffffffffffffffffffffffffc7634d81f4372ddf581a0db248b0a77aecec196accc52973";
        private static final String GROUP_TAG = "HashToGroup-OPRFV1-\001-P384-SHA384";
        private static final String SCALAR_TAG = "HashToScalar-OPRFV1-\001-P384-SHA384";
        private static final String SEED_TAG = "Seed-OPRFV1-\001-P384-SHA384";
        /** The bytes of one number modulo P or Q before it is reduced. */
        private static final int WIDE = 72;

        final byte[] blinded = new byte[ELEMENT];
        final byte[] inverse = new byte[SCALAR];
        final byte[] output = new byte[H3_SIZE];
        final Row answer = new Row(MOST_AT_ONCE * ELEMENT + PROOF);
        private final Hash hash = new Hash();
        private final Curve curve = new Curve();
        private final Modulus order = new Modulus(Curve.hex(Q), 0, SCALAR);
        private final Row message = new Row(300);
        private final Row padded = new Row(600);
        private final byte[] first = new byte[H3_SIZE];
        private final byte[] latest = new byte[H3_SIZE];
        private final byte[] expanded = new byte[3 * H3_SIZE];
        /** The blinded ELEMENTS that holders have remembered. */
        private final byte[] asked = new byte[MOST_AT_ONCE * ELEMENT];
        private final byte[] factors = new byte[MOST_AT_ONCE * SCALAR];
        private final byte[] pair = new byte[2 * SCALAR];
        /** The ELEMENTS A, M, Z, T, U of a challenge. */
        private final byte[] five = new byte[5 * ELEMENT];
        private final long[][] numbers = new long[2][order.limbs];
        private final Point p = new Point(curve.field.limbs);
        private final Point m = new Point(curve.field.limbs);
        private final Point z = new Point(curve.field.limbs);

        Oprf() {
        }

        boolean isSecret(byte[] from, int at) {
            return isScalar(from, at) && !Row.isZero(from, at, SCALAR);
        }

        private boolean isScalar(byte[] from, int at) {
            Modulus.read(from, at, SCALAR, numbers[0]);
            return order.isAbove(numbers[0]);
        }

        Key makeKey(byte[] from) {
            byte[] secret = Arrays.copyOf(from, SCALAR);
            byte[] shown = new byte[ELEMENT];
            curve.spread(Curve.PAIR, curve.base);
            curve.combine(Curve.PAIR, 1, secret, 0, p);
            curve.encode(p, shown, 0);
            return new Key(OPRF, SCALAR, 0, shown, secret, order);
        }

        /** Whether there is a SECRET to blind by: blinded and inverse are made then. */
        boolean blind(byte[] input, byte[] from, int at) {
            if (!isSecret(from, at)) {
                return false;
            }
            hashToGroup(input);
            curve.spread(Curve.PAIR, p);
            curve.combine(Curve.PAIR, 1, from, at, p);
            long[] r = numbers[0];
            Modulus.read(from, at, SCALAR, r);
            order.enter(r, r);
            order.invert(r, r);
            order.leave(r, r);
            Modulus.write(r, inverse, 0, SCALAR);
            return curve.encode(p, blinded, 0);
        }

        /** Makes the ANSWER to so many blinded ELEMENTS: whether they and the SECRET behind them are such. */
        boolean evaluate(Key key, byte[] from, int many) {
            int secretAt = HEAD + many * ELEMENT;
            if (!isSecret(from, secretAt)) {
                return false;
            }
            answer.clear();
            for (int i = 0; i < many; i++) {
                if (!curve.decode(from, HEAD + i * ELEMENT, p)) {
                    return false;
                }
                curve.spread(i, p);
                curve.combine(i, 1, key.secret, 0, p);
                if (!curve.encode(p, five, 0)) {
                    return false;
                }
                answer.putAll(five, 0, ELEMENT);
            }
            weigh(key, from, HEAD, answer.bytes, many);
            curve.combine(0, many, factors, 0, m);
            return prove(key, from, secretAt);
        }

        /** Puts a PROOF about the sum m behind the evaluated ELEMENTS. */
        private boolean prove(Key key, byte[] from, int secretAt) {
            System.arraycopy(key.shown, 0, five, 0, ELEMENT);
            boolean made = curve.encode(m, five, ELEMENT);
            curve.spread(Curve.PAIR, m);
            curve.combine(Curve.PAIR, 1, key.secret, 0, p);
            made = curve.encode(p, five, 2 * ELEMENT) && made;
            curve.combine(Curve.PAIR, 1, from, secretAt, p);
            made = curve.encode(p, five, 4 * ELEMENT) && made;
            curve.spread(Curve.PAIR, curve.base);
            curve.combine(Curve.PAIR, 1, from, secretAt, p);
            made = curve.encode(p, five, 3 * ELEMENT) && made;
            challenge();
            answerChallenge(key, from, secretAt);
            answer.putAll(pair, 0, PROOF);
            return made;
        }

        /** Behind the challenge c in pair comes R - c K. */
        private void answerChallenge(Key key, byte[] from, int secretAt) {
            long[] c = numbers[0];
            long[] k = numbers[1];
            Modulus.read(pair, 0, SCALAR, c);
            order.enter(c, c);
            Modulus.read(key.secret, 0, SCALAR, k);
            order.mul(c, k, c);
            Modulus.read(from, secretAt, SCALAR, k);
            order.sub(k, c, k);
            Modulus.write(k, pair, SCALAR, SCALAR);
        }

        void remind(int i, byte[] blindedElement) {
            System.arraycopy(blindedElement, 0, asked, i * ELEMENT, ELEMENT);
        }

        /** Whether an ANSWER is right for the ELEMENTS that remind() was told; its ELEMENTS are in the table then. */
        boolean isProved(Key key, byte[] from, int many) {
            int proof = many * ELEMENT;
            if (!isScalar(from, proof) || !isScalar(from, proof + SCALAR)) {
                return false;
            }
            weigh(key, asked, 0, from, many);
            if (!spreadSum(asked, many, m) || !spreadSum(from, many, z)) {
                return false;
            }
            System.arraycopy(from, proof + SCALAR, pair, 0, SCALAR);
            System.arraycopy(from, proof, pair, SCALAR, SCALAR);
            System.arraycopy(key.shown, 0, five, 0, ELEMENT);
            boolean made = curve.encode(m, five, ELEMENT) && curve.encode(z, five, 2 * ELEMENT);
            curve.spread(Curve.PAIR, m);
            curve.spread(Curve.PAIR + 1, z);
            curve.combine(Curve.PAIR, 2, pair, 0, p);
            made = curve.encode(p, five, 4 * ELEMENT) && made && curve.decode(five, 0, p);
            curve.spread(Curve.PAIR, curve.base);
            curve.spread(Curve.PAIR + 1, p);
            curve.combine(Curve.PAIR, 2, pair, 0, p);
            if (!curve.encode(p, five, 3 * ELEMENT) || !made) {
                return false;
            }
            challenge();
            return Row.same(pair, 0, from, proof, SCALAR);
        }

        /** The ELEMENTS go to the table; to is their sum, each times its factor. */
        private boolean spreadSum(byte[] from, int many, Point to) {
            for (int i = 0; i < many; i++) {
                if (!curve.decode(from, i * ELEMENT, p)) {
                    return false;
                }
                curve.spread(i, p);
            }
            curve.combine(0, many, factors, 0, to);
            return true;
        }

        /** The OUTPUT of an ASKING, of the evaluated ELEMENT at that place of the table. */
        void unblind(int place, Asking asking) {
            curve.combine(place, 1, asking.inverse, 0, p);
            makeOutput(asking.input);
        }

        boolean isOutput(Key key, byte[] token) {
            hashToGroup(token);
            curve.spread(Curve.PAIR, p);
            curve.combine(Curve.PAIR, 1, key.secret, 0, p);
            return makeOutput(token) && Row.same(output, 0, token, INPUT, H3_SIZE);
        }

        /** The OUTPUT of an INPUT whose evaluated point is p. */
        private boolean makeOutput(byte[] input) {
            if (!curve.encode(p, five, 0)) {
                return false;
            }
            message.clear();
            message.putNumber(INPUT, 2);
            message.putAll(input, 0, INPUT);
            putElement(five, 0);
            message.putText("Finalize");
            hash.h3(message, output);
            return true;
        }

        private void putElement(byte[] from, int at) {
            message.putNumber(ELEMENT, 2);
            message.putAll(from, at, ELEMENT);
        }

        /** The factors of the composites: d1, d2 and so on. */
        private void weigh(Key key, byte[] c, int ct, byte[] d, int many) {
            message.clear();
            putElement(key.shown, 0);
            message.putNumber(SEED_TAG.length(), 2);
            message.putText(SEED_TAG);
            hash.h3(message, output);
            for (int i = 0; i < many; i++) {
                message.clear();
                message.putNumber(H3_SIZE, 2);
                message.putAll(output, 0, H3_SIZE);
                message.putNumber(i, 2);
                putElement(c, ct + i * ELEMENT);
                putElement(d, i * ELEMENT);
                message.putText("Composite");
                hashToScalar(factors, i * SCALAR);
            }
        }

        /** The challenge of the five ELEMENTS, to the front of pair. */
        private void challenge() {
            message.clear();
            for (int i = 0; i < 5; i++) {
                putElement(five, i * ELEMENT);
            }
            message.putText("Challenge");
            hashToScalar(pair, 0);
        }

        private void hashToScalar(byte[] to, int at) {
            expand(SCALAR_TAG, WIDE);
            order.enterWide(expanded, 0, WIDE, numbers[0]);
            order.leave(numbers[0], numbers[0]);
            Modulus.write(numbers[0], to, at, SCALAR);
        }

        /** The point p of an INPUT. */
        private void hashToGroup(byte[] input) {
            message.clear();
            message.putAll(input, 0, INPUT);
            expand(GROUP_TAG, 2 * WIDE);
            curve.field.enterWide(expanded, 0, WIDE, numbers[0]);
            curve.mapTo(numbers[0], p);
            curve.field.enterWide(expanded, WIDE, WIDE, numbers[0]);
            curve.mapTo(numbers[0], m);
            curve.add(p, m, p);
        }

        /** expand_message_xmd of the message, to expanded. */
        private void expand(String tag, int many) {
            padded.clear();
            for (int i = 0; i < Hash.BLOCK3; i++) {
                padded.putByte(0);
            }
            padded.putAll(message.bytes, 0, message.size);
            padded.putNumber(many, 2);
            padded.putByte(0);
            padded.putText(tag);
            padded.putByte(tag.length());
            hash.h3(padded, first);
            Arrays.fill(latest, (byte) 0);
            for (int i = 0; i * H3_SIZE < many; i++) {
                padded.clear();
                for (int k = 0; k < H3_SIZE; k++) {
                    padded.putByte(first[k] ^ latest[k]);
                }
                padded.putByte(i + 1);
                padded.putText(tag);
                padded.putByte(tag.length());
                hash.h3(padded, latest);
                System.arraycopy(latest, 0, expanded, i * H3_SIZE, H3_SIZE);
            }
        }
    }

    /** TYPE 2: blind signatures by RSA. */
    private static final class BlindRsa {
        private static final int FEWEST = 66;
        private static final int MOST = 256;
        /** The fewest bytes of a modulus whose salts have 48. */
        private static final int FEWEST_SALTED = 100;
        private static final int SALT = 48;
        private static final int EXPONENT = 3;
        private static final int MOST_EXPONENT = 65537;

        final byte[] blinded = new byte[MOST];
        final byte[] inverse = new byte[MOST];
        final byte[] signed = new byte[MOST];
        private final Hash hash = new Hash();
        private final Row message = new Row(200);
        private final byte[] salt = new byte[SALT];
        private final byte[] mark = new byte[H3_SIZE];
        private final byte[] mask = new byte[MOST + H3_SIZE];
        private final byte[] piece = new byte[H3_SIZE];
        private final byte[] encoded = new byte[MOST];
        private final byte[] opened = new byte[MOST];
        private final long[][] numbers = new long[3][8 * MOST / Modulus.BITS + 1];

        BlindRsa() {
        }

        private static int sizeOf(int size) {
            return (size - EXPONENT - 1) / 2;
        }

        /** Whether so many bytes are N, E, D and S of a KEY. */
        static boolean isKey(byte[] from, int size) {
            int len = sizeOf(size);
            if (len < FEWEST || len > MOST || size != 2 * len + EXPONENT + 1) {
                return false;
            }
            int e = (from[len] & 255) << 16 | (from[len + 1] & 255) << 8 | from[len + 2] & 255;
            int d = len + EXPONENT;
            int s = from[size - 1];
            return from[0] != 0 && (from[len - 1] & 1) != 0
                && e >= 3 && e <= MOST_EXPONENT && (e & 1) != 0
                && !Row.isZero(from, d, len) && Row.isLess(from, d, from, 0, len)
                && (s == 0 || s == SALT && len >= FEWEST_SALTED);
        }

        static Key makeKey(byte[] from, int size) {
            int len = sizeOf(size);
            byte[] shown = Arrays.copyOf(from, len + EXPONENT);
            byte[] secret = Arrays.copyOfRange(from, len + EXPONENT, size - 1);
            return new Key(RSA, len, from[size - 1], shown, secret, new Modulus(from, 0, len));
        }

        /** Reads a number of LEN bytes: whether it is below N. */
        private static boolean readBelow(Key key, byte[] from, int at, long[] to) {
            Modulus.read(from, at, key.size, to);
            return key.modulus.isAbove(to);
        }

        /** From a salt and a blind: whether blinded and inverse could be made. */
        boolean blind(Key key, byte[] input, byte[] from, int at) {
            Modulus n = key.modulus;
            long[] r = numbers[0];
            long[] back = numbers[1];
            long[] x = numbers[2];
            if (!readBelow(key, from, at + key.salt, r)) {
                return false;
            }
            n.enter(r, r);
            if (!n.invert(r, back)) {
                return false;
            }
            n.leave(back, back);
            Modulus.write(back, inverse, 0, key.size);
            System.arraycopy(from, at, salt, 0, key.salt);
            encode(key, input);
            Modulus.read(encoded, 0, key.size, x);
            n.enter(x, x);
            if (!n.invert(x, back)) {
                return false;
            }
            n.raise(r, key.shown, key.size, EXPONENT, r);
            n.mul(r, x, x);
            n.leave(x, x);
            Modulus.write(x, blinded, 0, key.size);
            return true;
        }

        /** Whether there is a number to sign, and what was signed gives it by E. */
        boolean sign(Key key, byte[] from, int at) {
            Modulus n = key.modulus;
            long[] x = numbers[0];
            long[] y = numbers[1];
            if (!readBelow(key, from, at, x)) {
                return false;
            }
            n.enter(x, x);
            n.raise(x, key.secret, 0, key.size, y);
            n.leave(y, numbers[2]);
            Modulus.write(numbers[2], signed, 0, key.size);
            n.raise(y, key.shown, key.size, EXPONENT, y);
            return n.same(x, y);
        }

        /** Whether an ANSWER gives a signature that is right for the ASKING. */
        boolean unblind(Asking asking, byte[] from) {
            Key key = asking.key;
            Modulus n = key.modulus;
            long[] x = numbers[0];
            long[] back = numbers[1];
            if (!readBelow(key, from, 0, x)) {
                return false;
            }
            Modulus.read(asking.inverse, 0, key.size, back);
            n.enter(back, back);
            n.mul(x, back, x);
            Modulus.write(x, signed, 0, key.size);
            return isRight(key, asking.input, signed, 0);
        }

        boolean isSigned(Key key, byte[] token) {
            return isRight(key, token, token, INPUT);
        }

        /** Takes the salt out of what was signed and encodes anew: all of it must come the same. */
        private boolean isRight(Key key, byte[] input, byte[] from, int at) {
            Modulus n = key.modulus;
            long[] x = numbers[0];
            if (!readBelow(key, from, at, x)) {
                return false;
            }
            n.enter(x, x);
            n.raise(x, key.shown, key.size, EXPONENT, x);
            n.leave(x, x);
            Modulus.write(x, opened, 0, key.size);
            int markAt = key.size - H3_SIZE - 1;
            System.arraycopy(opened, markAt, mark, 0, H3_SIZE);
            makeMask(key);
            for (int i = 0; i < key.salt; i++) {
                int p = markAt - key.salt + i;
                salt[i] = (byte) (opened[p] ^ mask[p]);
            }
            encode(key, input);
            return Row.same(opened, 0, encoded, 0, key.size);
        }

        /** EMSA-PSS-ENCODE with the salt; where the code has a byte less than N, a 0 is ahead. */
        private void encode(Key key, byte[] input) {
            message.clear();
            message.putAll(input, 0, INPUT);
            hash.h3(message, mark);
            message.clear();
            message.putNumber(0, 4);
            message.putNumber(0, 4);
            message.putAll(mark, 0, H3_SIZE);
            message.putAll(salt, 0, key.salt);
            hash.h3(message, mark);
            makeMask(key);
            int markAt = key.size - H3_SIZE - 1;
            int saltAt = markAt - key.salt;
            System.arraycopy(mask, 0, encoded, 0, markAt);
            encoded[saltAt - 1] ^= 1;
            for (int i = 0; i < key.salt; i++) {
                encoded[saltAt + i] ^= salt[i];
            }
            clearTop(key);
            System.arraycopy(mark, 0, encoded, markAt, H3_SIZE);
            encoded[key.size - 1] = (byte) 0xbc;
        }

        /** The code has one bit less than N: so a byte ahead of it becomes 0. */
        private void clearTop(Key key) {
            int keep = 0;
            for (int bits = key.shown[0] & 255; bits > 1; bits >>= 1) {
                keep = 2 * keep + 1;
            }
            encoded[0] &= keep;
        }

        /** MGF1 of the mark, as long as what stands ahead of it; behind a byte where the code has one less than N. */
        private void makeMask(Key key) {
            int ahead = (key.shown[0] & 255) == 1 ? 1 : 0;
            int many = key.size - H3_SIZE - 1 - ahead;
            for (int i = 0; i * H3_SIZE < many; i++) {
                message.clear();
                message.putAll(mark, 0, H3_SIZE);
                message.putNumber(i, 4);
                hash.h3(message, piece);
                System.arraycopy(piece, 0, mask, ahead + i * H3_SIZE, H3_SIZE);
            }
        }
    }

    /** The table of spent NONCES, on a disk whose power may go ahead of a WRITE. */
    private static final class SpentDisk {
        private static final int BLOCKS = 8;
        private static final int BLOCK = 512;
        private static final int SLOTS_OF_BLOCK = 14;
        private static final int SLOTS = BLOCKS * SLOTS_OF_BLOCK;
        private static final int MARK = 4;
        private static final int SLOT = MARK + NONCE;

        final byte[] bytes = new byte[BLOCKS * BLOCK];
        boolean down = false;
        /** How many WRITES are still done till power goes; NONE if it does not go. */
        int writesLeft = NONE;
        int writes = 0;

        SpentDisk() {
        }

        private static int placeOf(int slot) {
            return slot / SLOTS_OF_BLOCK * BLOCK + slot % SLOTS_OF_BLOCK * SLOT;
        }

        private boolean isTaken(int slot) {
            return !Row.isZero(bytes, placeOf(slot), MARK);
        }

        int spentNonces() {
            int taken = 0;
            for (int i = 0; i < SLOTS; i++) {
                taken += isTaken(i) ? 1 : 0;
            }
            return taken;
        }

        /** The SLOT that has the NONCE, or else the free one it would get; NONE if there is neither. */
        private int find(byte[] from, int at) {
            long v = 0;
            for (int i = 0; i < 4; i++) {
                v = v << 8 | from[at + i] & 255;
            }
            int start = (int) (v % SLOTS);
            for (int i = 0; i < SLOTS; i++) {
                int slot = (start + i) % SLOTS;
                if (!isTaken(slot) || Row.same(bytes, placeOf(slot) + MARK, from, at, NONCE)) {
                    return slot;
                }
            }
            return NONE;
        }

        int spend(byte[] from, int at) {
            int slot = find(from, at);
            if (slot == NONE) {
                return FULL;
            }
            if (isTaken(slot)) {
                return SPENT;
            }
            if (writesLeft == 0) {
                down = true;
                return DOWN;
            }
            if (writesLeft > 0) {
                writesLeft--;
            }
            bytes[placeOf(slot) + MARK - 1] = 1;
            System.arraycopy(from, at, bytes, placeOf(slot) + MARK, NONCE);
            writes++;
            return 0;
        }
    }
}
