import java.util.function.IntSupplier;

/** Terms 5: the DISK, power, and what answers below 0 mean, sentence by sentence. */
final class SpentSentencesTest extends Sentences {
    private static final byte[] R = Pair.scalar(11);

    public static void main(String[] args) {
        run(SpentSentencesTest.class);
    }

    private static int placeOf(int slot) {
        return 512 * (slot / 14) + 36 * (slot % 14);
    }

    /** A TOKEN of KEY 0 with this NONCE is redeemed: just this SLOT is written. */
    private static void spend(Pair pair, byte[] nonce, int slot) {
        byte[] before = disk(pair);
        pair.due(pair.put(pair.ownToken(0, nonce)).redeem(), 0);
        System.arraycopy(Model.join(new byte[] {0, 0, 0, 1}, nonce), 0, before, placeOf(slot), 36);
        sameBytes("SLOT " + slot + " alone", disk(pair), before);
    }

    private static byte[] disk(Pair pair) {
        byte[] all = new byte[4096];
        for (int i = 0; i < 4096; i++) {
            all[i] = (byte) pair.x.disk(i);
        }
        return all;
    }

    @Sentence(of = "Terms 5", says = "THE DISK has 8 BLOCKS of 512 bytes, all 0 at first,")
    static void eightBlocks(Pair pair) {
        for (int block = 0; block < 8; block++) {
            for (int i : new int[] {0, 1, 503, 504, 511}) {
                pair.due(pair.disk(512 * block + i), 0);
            }
        }
        sameBytes("all 0", disk(pair), new byte[4096]);
        pair.due(pair.disk(4096), NONE);
        pair.due(pair.disk(-1), NONE);
    }

    @Sentence(of = "Terms 5", says = "and with that 112 SLOTS:")
    static void hundredAndTwelveSlots(Pair pair) {
        pair.rsaKey(PLAIN);
        for (int slot = 0; slot < 112; slot++) {
            spend(pair, Pair.nonce(slot, 1000 + slot), slot);
        }
        pair.due(pair.count(4), 112);
        pair.due(pair.put(pair.ownToken(0, Pair.nonce(0, 2000))).redeem(), FULL);
        // What is left of each BLOCK stays 0.
        for (int block = 0; block < 8; block++) {
            for (int i = 504; i < 512; i++) {
                pair.due(pair.disk(512 * block + i), 0);
            }
        }
    }

    @Sentence(of = "Terms 5", says = "SLOT k is of BLOCK k / 14, from byte 36 (k % 14) on:")
    static void placesOfSlots(Pair pair) {
        pair.rsaKey(PLAIN);
        int[][] places = {{0, 0}, {1, 36}, {12, 432}, {13, 468}, {14, 512}, {15, 548}, {27, 980}, {28, 1024},
            {97, 3540}, {98, 3584}, {110, 4016}, {111, 4052}};
        for (int[] one : places) {
            pair.due(pair.disk(one[1] + 3), 0);
            pair.due(pair.put(pair.ownToken(0, Pair.nonce(one[0], 77))).redeem(), 0);
            pair.due(pair.disk(one[1] + 3), 1);
            pair.due(pair.disk(one[1] + 7), one[0]);
            pair.due(pair.disk(one[1] + 35), 77);
        }
    }

    @Sentence(of = "Terms 5", says = "four bytes, 0 if it is free, else (1, 4), then a NONCE.")
    static void slotsBegin(Pair pair) {
        pair.rsaKey(PLAIN);
        // A NONCE of zeros alone is one as well: the four bytes ahead tell it from a free SLOT.
        byte[] zeros = new byte[32];
        pair.due(pair.count(4), 0);
        spend(pair, zeros, 0);
        pair.due(pair.count(4), 1);
        pair.due(pair.put(pair.ownToken(0, zeros)).redeem(), SPENT);
        byte[] all = new byte[32];
        java.util.Arrays.fill(all, (byte) 255);
        spend(pair, all, 31);
        pair.due(pair.put(pair.ownToken(0, all)).redeem(), SPENT);
        spend(pair, Pair.nonce(0, 1), 1);
        pair.due(pair.count(4), 3);
    }

    @Sentence(of = "Terms 5",
        says = "A NONCE is looked for from SLOT v % 112 on, v its first four bytes as a number without sign,")
    static void firstSlots(Pair pair) {
        pair.rsaKey(PLAIN);
        // v, and the SLOT: 112 and 113 begin anew, but 0 and 1 are taken by then.
        long[][] firsts = {{0, 0}, {1, 1}, {110, 110}, {111, 111}, {112, 2}, {113, 3}, {118, 6}, {0x7fffffffL, 15},
            {0x80000000L, 16}, {0x80000001L, 17}, {0xfffffffeL, 30}, {0xffffffffL, 31}, {0x01000000L, 64},
            {0x00010000L, 18}, {0x00000100L, 32}};
        for (int i = 0; i < firsts.length; i++) {
            spend(pair, Pair.nonce(firsts[i][0], i), (int) firsts[i][1]);
        }
        // The fifth byte does not count, the fourth does.
        byte[] fifth = Pair.nonce(90, 0);
        fifth[4] = 1;
        spend(pair, fifth, 90);
        spend(pair, Pair.nonce(91, 0), 91);
    }

    @Sentence(of = "Terms 5", says = "then in the next one, and so on, 111 behind 0:")
    static void nextSlots(Pair pair) {
        pair.rsaKey(PLAIN);
        // The second number is the SLOT: next ones, across the end of a BLOCK, and round. The words are read so that 0
        // comes behind 111: "on" and "the next one" leave no other way to go round.
        int[][] run = {{13, 13}, {13, 14}, {13, 15}, {12, 12}, {12, 16}, {110, 110}, {110, 111}, {110, 0}, {111, 1},
            {111, 2}, {0, 3}, {223, 4}, {4, 5}};
        for (int i = 0; i < run.length; i++) {
            spend(pair, Pair.nonce(run[i][0], 50 + i), run[i][1]);
        }
        for (int i = 0; i < run.length; i++) {
            pair.due(pair.put(pair.ownToken(0, Pair.nonce(run[i][0], 50 + i))).redeem(), SPENT);
        }
    }

    @Sentence(of = "Terms 5", says = "up to one that has it (it is SPENT) or is free.")
    static void upToOneThatHasIt(Pair pair) {
        pair.rsaKey(PLAIN);
        for (int i = 0; i < 20; i++) {
            spend(pair, Pair.nonce(100, i), (100 + i) % 112);
        }
        for (int i : new int[] {0, 1, 11, 12, 19}) {
            pair.due(pair.put(pair.ownToken(0, Pair.nonce(100, i))).redeem(), SPENT);
        }
        pair.due(pair.count(5), 20);
        // All 32 bytes must be the same: else it goes on to the first free SLOT behind all of those.
        spend(pair, Pair.nonce(100, 20), 8);
        spend(pair, Pair.nonce(212, 0), 9);
        byte[] other = Pair.nonce(100, 0);
        other[4] = 1;
        spend(pair, other, 10);
        spend(pair, Pair.nonce(11, 0), 11);
        // Once round: 87 is the last SLOT that is looked at from 88 on, whether it is free or has it.
        for (int slot = 12; slot < 100; slot++) {
            if (slot != 87) {
                spend(pair, Pair.nonce(slot, 0), slot);
            }
        }
        byte[] last = Pair.nonce(88, 1);
        spend(pair, last, 87);
        pair.due(pair.put(pair.ownToken(0, last)).redeem(), SPENT);
    }

    @Sentence(of = "Terms 5", says = "To spend it that free SLOT is written, with its whole BLOCK, by one WRITE.")
    static void oneWriteEach(Pair pair) {
        pair.rsaKey(PLAIN);
        int[] firsts = {0, 0, 13, 13, 111, 111};
        int[] slots = {0, 1, 13, 14, 111, 2};
        for (int i = 0; i < firsts.length; i++) {
            pair.due(pair.count(5), i);
            spend(pair, Pair.nonce(firsts[i], 30 + i), slots[i]);
            pair.due(pair.count(5), i + 1);
            pair.due(pair.put(pair.ownToken(0, Pair.nonce(firsts[i], 30 + i))).redeem(), SPENT);
            pair.due(pair.count(5), i + 1);
        }
    }

    @Sentence(of = "Terms 5", says = "Power can be told to go: then so many WRITES are still done; where one more would"
        + " come it is not, and the disk is DOWN:")
    static void powerGoes(Pair pair) {
        pair.rsaKey(PLAIN);
        int next = 0;
        for (int writes : new int[] {0, 1, 3}) {
            pair.due(pair.cut(writes), true);
            for (int i = 0; i < writes; i++) {
                spend(pair, Pair.nonce(next, next), next);
                next++;
            }
            pair.due(pair.count(6), 0);
            // No WRITE would come of these.
            pair.due(pair.put(ones(98)).redeem(), NO_KEY);
            if (next > 0) {
                pair.due(pair.put(pair.ownToken(0, Pair.nonce(0, 0))).redeem(), SPENT);
            }
            pair.due(pair.count(6), 0);
            byte[] before = disk(pair);
            pair.due(pair.put(pair.ownToken(0, Pair.nonce(next, next))).redeem(), DOWN);
            sameBytes("nothing is written", disk(pair), before);
            pair.due(pair.count(5), next);
            pair.due(pair.count(6), 1);
            pair.due(pair.power(), next);
        }
        // On a full DISK no WRITE would come: it is FULL, and not DOWN.
        for (int i = next; i < 112; i++) {
            spend(pair, Pair.nonce(i, i), i);
        }
        pair.due(pair.cut(0), true);
        pair.due(pair.put(pair.ownToken(0, Pair.nonce(5, 500))).redeem(), FULL);
        pair.due(pair.count(6), 0);
        pair.due(pair.count(7), 0);
    }

    @Sentence(of = "Terms 5", says = "that call, and each redeem() behind it, answers DOWN, till power().")
    static void downTillPower(Pair pair) {
        twoKeysAndAskings(pair);
        byte[] token = pair.ownToken(0, NONCE);
        pair.due(pair.cut(0), true);
        for (int i = 0; i < 3; i++) {
            pair.due(pair.put(token).redeem(), DOWN);
            pair.due(pair.put(ones(i)).redeem(), DOWN);
        }
        // The other calls go on.
        pair.due(pair.digest(), 32);
        pair.due(pair.secretKey(ONE), 2);
        pair.due(pair.wish(0, NONCE, TWO).request(0), 2);
        pair.due(pair.put(pair.answerTo(3)).finalize(2), 146);
        pair.due(pair.retire(2), 1);
        pair.due(pair.disk(0), 0);
        pair.due(pair.put(token).redeem(), DOWN);
        pair.due(pair.power(), 0);
        pair.due(pair.put(token).redeem(), 0);
        pair.due(pair.put(token).redeem(), SPENT);
    }

    /** KEYS 0 and 1 of TYPES 1 and 2, with an open ASKING of each. */
    private static void twoKeysAndAskings(Pair pair) {
        pair.secretKey(TWO);
        pair.rsaKey(PLAIN);
        pair.wish(0, NONCE, TWO).request(0);
        pair.wish(1, NONCE, TWO).request(1);
    }

    @Sentence(of = "Terms 5", says = "Answers below 0: REFUSED: the bytes are not as many as must be, or a number is"
        + " none that can be;")
    static void refused(Pair pair) {
        twoKeysAndAskings(pair);
        pair.due(pair.put(ones(47)).key(1), REFUSED);
        pair.due(pair.put(ones(49)).key(1), REFUSED);
        pair.due(pair.secretKey(ZERO), REFUSED);
        pair.due(pair.secretKey(Q), REFUSED);
        for (int away : new int[] {-1, 1}) {
            pair.due(pair.put(ones(112 + away)).request(0), REFUSED);
            pair.due(pair.put(ones(130 + away)).request(1), REFUSED);
            pair.due(pair.put(pair.head(0), ones(97 + away)).issue(), REFUSED);
            pair.due(pair.put(pair.head(1), ones(66 + away)).issue(), REFUSED);
            pair.due(pair.put(pair.head(0), ones(97 + away)).issueMany(1), REFUSED);
            pair.due(pair.put(ones(145 + away)).finalize(0), REFUSED);
            pair.due(pair.put(ones(66 + away)).finalize(1), REFUSED);
            pair.due(pair.put(ones(145 + away)).finalizeMany(0, 1), REFUSED);
            pair.due(pair.put(pair.input(0, NONCE), ones(48 + away)).redeem(), REFUSED);
            pair.due(pair.put(pair.input(1, NONCE), ones(66 + away)).redeem(), REFUSED);
        }
        pair.due(pair.put(pair.head(0), Elements.of(1), R).issueMany(0), REFUSED);
        pair.due(pair.put(pair.head(0), Elements.of(1), R).issueMany(1), 145);
    }

    @Sentence(of = "Terms 5", says = "NO_KEY: no such KEY (or none LIVE);")
    static void noKey(Pair pair) {
        pair.due(pair.put(ones(112)).request(0), NO_KEY);
        twoKeysAndAskings(pair);
        byte[][] heads = {pair.head(0), pair.head(1)};
        byte[][] tokens = {pair.ownToken(0, Pair.nonce(0, 1)), pair.ownToken(1, Pair.nonce(1, 1))};
        byte[][] rests = {Model.join(Elements.of(1), R), ones(66)};
        for (int key = 0; key < 2; key++) {
            for (int live = 1; live >= 0; live--) {
                pair.due(pair.wish(key, NONCE, TWO).request(key), live == 1 ? 2 + key : NO_KEY);
                pair.due(pair.put(heads[key], rests[key]).issue(), live == 0 ? NO_KEY : key == 0 ? 145 : 66);
                pair.due(pair.put(tokens[key]).redeem(), live == 1 ? 0 : NO_KEY);
                pair.retire(key);
            }
        }
        pair.due(pair.put(heads[0], rests[0]).issueMany(1), NO_KEY);
        pair.due(pair.put(ones(112)).request(-1), NO_KEY);
        pair.due(pair.put(ones(112)).request(2), NO_KEY);
    }

    @Sentence(of = "Terms 5", says = "BAD: an ELEMENT, a number, a PROOF, a signature is not right.")
    static void bad(Pair pair) {
        pair.secretKey(TWO);
        pair.rsaKey(PLAIN);
        pair.wish(0, NONCE, TWO).request(0);
        byte[] answer = pair.answerTo(3);
        pair.wish(1, NONCE, TWO).request(1);
        byte[] signed = pair.answerTo(3);
        pair.due(pair.put(pair.head(0), Elements.none(), R).issue(), BAD);
        pair.due(pair.put(pair.head(0), Elements.of(1), Pair.scalar(Q)).issue(), BAD);
        pair.due(pair.put(pair.head(1), Model.bytes(PLAIN.n, 66)).issue(), BAD);
        pair.due(pair.wish(1, NONCE, PLAIN.n).request(1), BAD);
        pair.due(pair.put(Pair.bent(answer, 144)).finalize(0), BAD);
        pair.due(pair.put(Pair.bent(signed, 65)).finalize(1), BAD);
        pair.due(pair.put(Pair.bent(pair.ownToken(0, NONCE), 145)).redeem(), BAD);
        pair.due(pair.put(Pair.bent(pair.ownToken(1, NONCE), 163)).redeem(), BAD);
        pair.due(pair.put(answer).finalize(0), 146);
        pair.due(pair.put(signed).finalize(1), 164);
    }

    @Sentence(of = "Terms 5", says = "Of several the one told first in a call's words.")
    static void severalOfKey(Pair pair) {
        for (int i = 0; i < 6; i++) {
            pair.due(pair.secretKey(ONE), i);
        }
        pair.due(pair.put(ones(48)).key(0), REFUSED);
        pair.due(pair.put(ones(47)).key(1), REFUSED);
        pair.due(pair.secretKey(ZERO), REFUSED);
        pair.due(pair.put(Rsa.tape(PLAIN.n, 3, ZERO, 0, 66)).key(2), REFUSED);
        pair.due(pair.put(Rsa.tape(PLAIN.n, 4, ONE, 0, 66)).key(2), REFUSED);
        pair.due(pair.rsaKey(PLAIN), FULL);
    }

    @Sentence(of = "Terms 5", says = "Of several the one told first in a call's words.")
    static void severalOfRequest(Pair pair) {
        pair.secretKey(TWO);
        pair.rsaKey(PLAIN);
        pair.rsaKey(PLAIN);
        pair.due(pair.put(ones(5)).request(3), NO_KEY);
        for (int i = 0; i < 60; i++) {
            pair.due(pair.wish(1, NONCE, TWO).request(1), i);
        }
        pair.retire(2);
        for (int key : new int[] {-1, 2, 3}) {
            pair.due(pair.put(ones(5)).request(key), NO_KEY);
            pair.due(pair.put(ones(130)).request(key), NO_KEY);
            pair.due(pair.put(new byte[130]).request(key), NO_KEY);
        }
        for (int key = 0; key < 2; key++) {
            pair.due(pair.put(new byte[111]).request(key), REFUSED);
            pair.due(pair.put(new byte[131]).request(key), REFUSED);
            pair.due(pair.wish(key, NONCE, ZERO).request(key), FULL);
            pair.due(pair.wish(key, NONCE, key == 0 ? Q : PLAIN.n).request(key), FULL);
        }
    }

    @Sentence(of = "Terms 5", says = "Of several the one told first in a call's words.")
    static void severalOfIssue(Pair pair) {
        pair.secretKey(TWO);
        pair.rsaKey(PLAIN);
        byte[] head = pair.head(0);
        byte[] none = Pair.bent(head, 2);
        pair.due(pair.put(new byte[] {0, 3, none[2]}, ones(5)).issue(), REFUSED);
        pair.due(pair.put(none, ones(5)).issue(), NO_KEY);
        pair.due(pair.put(none, Elements.none(), new byte[48]).issue(), NO_KEY);
        pair.due(pair.put(head, Elements.none(), new byte[47]).issue(), REFUSED);
        pair.due(pair.put(pair.head(1), Model.bytes(PLAIN.n, 66), ones(1)).issue(), REFUSED);
        pair.due(pair.put(Pair.bent(pair.head(1), 2), Model.bytes(PLAIN.n, 66)).issue(), NO_KEY);
        // A wrong many is told of ahead of the KEY, a wrong length behind it.
        pair.due(pair.put(none, Elements.none(), R).issueMany(0), REFUSED);
        pair.due(pair.put(none, Elements.none(), R).issueMany(9), REFUSED);
        pair.due(pair.put(none, Elements.none(), R).issueMany(2), NO_KEY);
        pair.due(pair.put(none, Elements.none(), R).issueMany(1), NO_KEY);
        pair.due(pair.put(head, Elements.none(), R).issueMany(2), REFUSED);
        pair.due(pair.put(head, Elements.none(), R).issueMany(1), BAD);
    }

    @Sentence(of = "Terms 5", says = "Of several the one told first in a call's words.")
    static void severalOfFinalize(Pair pair) {
        twoKeysAndAskings(pair);
        pair.wish(0, NONCE, TWO).request(0);
        pair.put(pair.answerTo(3)).finalize(2);
        for (int none : new int[] {-1, 2, 3}) {
            pair.due(pair.put(ones(5)).finalize(none), THROWN);
            pair.due(pair.put(ones(145)).finalize(none), THROWN);
        }
        pair.due(pair.put(Elements.none(), ones(95)).finalize(0), REFUSED);
        pair.due(pair.put(Model.bytes(PLAIN.n, 66), ones(1)).finalize(1), REFUSED);
        // ASKING 1 is of another KEY, 2 is not open, 3 is not there.
        pair.due(pair.put(ones(5)).finalizeMany(0, 0), THROWN);
        pair.due(pair.put(ones(5)).finalizeMany(0, 3), THROWN);
        pair.due(pair.put(ones(5)).finalizeMany(0, 4), THROWN);
        pair.due(pair.put(ones(5)).finalizeMany(1, 2), THROWN);
        pair.due(pair.put(Elements.none(), Elements.none(), ones(96)).finalizeMany(0, 2), REFUSED);
        pair.due(pair.put(Elements.none(), ones(95)).finalizeMany(0, 1), REFUSED);
        pair.due(pair.put(Elements.none(), ones(96)).finalizeMany(1, 1), REFUSED);
        pair.due(pair.put(Elements.none(), ones(96)).finalizeMany(0, 1), BAD);
    }

    @Sentence(of = "Terms 5", says = "Of several the one told first in a call's words.")
    static void severalOfRedeem(Pair pair) {
        pair.secretKey(TWO);
        pair.rsaKey(PLAIN);
        byte[] token = pair.ownToken(1, Pair.nonce(0, 0));
        byte[] fresh = pair.ownToken(1, Pair.nonce(0, 112));
        byte[] unknown = Pair.bent(token, 97);
        pair.due(pair.put(Model.slice(unknown, 0, 97)).redeem(), REFUSED);
        pair.due(pair.put(Model.slice(unknown, 0, 163)).redeem(), NO_KEY);
        pair.due(pair.put(Model.slice(Pair.bent(token, 98), 0, 163)).redeem(), REFUSED);
        pair.due(pair.put(token).redeem(), 0);
        pair.due(pair.put(Pair.bent(token, 98)).redeem(), BAD);
        for (int i = 1; i < 112; i++) {
            pair.due(pair.put(pair.ownToken(1, Pair.nonce(i, i))).redeem(), 0);
        }
        pair.due(pair.put(fresh).redeem(), FULL);
        pair.due(pair.put(Pair.bent(fresh, 98)).redeem(), BAD);
        pair.due(pair.put(Model.slice(fresh, 0, 163)).redeem(), REFUSED);
        pair.due(pair.put(token).redeem(), SPENT);
        pair.due(pair.put(Pair.bent(fresh, 97)).redeem(), NO_KEY);
        // DOWN is told ahead of all: RedeemSentencesTest.redeemWhileDown has it.
    }

    /** Makes a call that answers below 0 or throws, and sees that all but the TAPE is as it was. */
    private static void changesNothing(Pair pair, IntSupplier call) {
        String before = pair.state();
        int got = call.getAsInt();
        Pair.check("an answer below 0, or thrown: " + got, got < 0 || got == THROWN);
        Pair.check("all is as it was behind " + got, pair.state().equals(before));
    }

    @Sentence(of = "Terms 5", says = "What answers below 0 changes nothing but the TAPE.")
    static void refusedChangesNothing(Pair pair) {
        twoKeysAndAskings(pair);
        pair.put(pair.ownToken(0, Pair.nonce(3, 3))).redeem();
        pair.digest();
        pair.cut(5);
        changesNothing(pair, () -> pair.put(ones(47)).key(1));
        changesNothing(pair, () -> pair.secretKey(Q));
        changesNothing(pair, () -> pair.put(ones(136)).key(2));
        changesNothing(pair, () -> pair.put(ones(48)).key(3));
        changesNothing(pair, () -> pair.put(ones(112)).request(2));
        changesNothing(pair, () -> pair.put(ones(111)).request(0));
        changesNothing(pair, () -> pair.wish(0, NONCE, ZERO).request(0));
        changesNothing(pair, () -> pair.wish(1, NONCE, PLAIN.n).request(1));
        changesNothing(pair, () -> pair.put(ones(2)).issue());
        changesNothing(pair, () -> pair.put(Pair.bent(pair.head(0), 2), Elements.of(1), R).issue());
        changesNothing(pair, () -> pair.put(pair.head(0), Elements.none(), R).issue());
        changesNothing(pair, () -> pair.put(pair.head(1), Model.bytes(PLAIN.n, 66)).issue());
        changesNothing(pair, () -> pair.put(pair.head(0), Elements.of(1), R).issueMany(9));
        changesNothing(pair, () -> pair.put(pair.head(0), Elements.of(1), Elements.none(), R).issueMany(2));
        changesNothing(pair, () -> pair.put(ones(144)).finalize(0));
        changesNothing(pair, () -> pair.put(ones(145)).finalize(0));
        changesNothing(pair, () -> pair.put(ones(66)).finalize(1));
        changesNothing(pair, () -> pair.put(ones(66)).finalize(2));
        changesNothing(pair, () -> pair.put(ones(145)).finalizeMany(0, 1));
        changesNothing(pair, () -> pair.put(ones(194)).finalizeMany(0, 2));
        changesNothing(pair, () -> pair.put(ones(145)).finalizeMany(0, 9));
        changesNothing(pair, () -> pair.put(ones(97)).redeem());
        changesNothing(pair, () -> pair.put(ones(98)).redeem());
        changesNothing(pair, () -> pair.put(pair.input(0, NONCE), ones(47)).redeem());
        changesNothing(pair, () -> pair.put(pair.input(0, NONCE), ones(48)).redeem());
        changesNothing(pair, () -> pair.put(pair.ownToken(0, Pair.nonce(3, 3))).redeem());
        changesNothing(pair, () -> pair.again(0, 33));
        changesNothing(pair, () -> pair.look(2, 0));
        changesNothing(pair, () -> pair.look(0, 5));
        changesNothing(pair, () -> pair.retire(2));
        changesNothing(pair, () -> pair.out(32));
        changesNothing(pair, () -> pair.disk(4096));
        changesNothing(pair, () -> pair.count(10));
        pair.due(pair.count(7), 5);
    }

    @Sentence(of = "Terms 5", says = "What answers below 0 changes nothing but the TAPE.")
    static void fullAndDownChangeNothing(Pair pair) {
        twoKeysAndAskings(pair);
        for (int i = 2; i < 6; i++) {
            pair.due(pair.secretKey(ONE), i);
        }
        for (int i = 2; i < 60; i++) {
            pair.due(pair.wish(1, NONCE, TWO).request(1), i);
        }
        changesNothing(pair, () -> pair.secretKey(ONE));
        changesNothing(pair, () -> pair.rsaKey(PLAIN));
        changesNothing(pair, () -> pair.wish(0, NONCE, TWO).request(0));
        changesNothing(pair, () -> pair.wish(1, NONCE, TWO).request(1));
        pair.cut(0);
        pair.due(pair.put(pair.ownToken(1, NONCE)).redeem(), DOWN);
        changesNothing(pair, () -> pair.put(pair.ownToken(1, NONCE)).redeem());
        changesNothing(pair, () -> pair.put(ones(5)).redeem());
        pair.due(pair.power(), 0);
        for (int i = 0; i < 112; i++) {
            pair.due(pair.put(pair.ownToken(1, Pair.nonce(i, i))).redeem(), 0);
        }
        changesNothing(pair, () -> pair.put(pair.ownToken(1, NONCE)).redeem());
    }
}
