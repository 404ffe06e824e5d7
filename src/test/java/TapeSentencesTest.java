/** Promises 1 to 6 and 10: a new object, the TAPE and OUT, sentence by sentence. */
final class TapeSentencesTest extends Sentences {
    public static void main(String[] args) {
        run(TapeSentencesTest.class);
    }

    /** OUT becomes 32 bytes, the TAPE is empty. */
    private static void leave32(Pair pair) {
        pair.due(pair.digest(), 32);
    }

    @Sentence(of = "Promise 1", says = "No KEYS, ASKINGS;")
    static void newHasNoKeysAndAskings(Pair pair) {
        for (int what = 0; what <= 3; what++) {
            pair.due(pair.count(what), 0);
        }
        for (int none = -1; none <= 1; none++) {
            pair.due(pair.look(none, 2), THROWN);
            pair.due(pair.retire(none), THROWN);
            pair.due(pair.put(ones(112)).request(none), NO_KEY);
            pair.due(pair.put(ones(145)).finalize(none), THROWN);
            pair.due(pair.put(ones(145)).finalizeMany(none, 1), THROWN);
        }
        pair.due(pair.put(new byte[] {0, 1}, ones(98)).issue(), NO_KEY);
        pair.due(pair.put(ones(48)).key(1), 0);
        pair.due(pair.put(ones(112)).request(0), 0);
    }

    @Sentence(of = "Promise 1", says = "an empty DISK;")
    static void newHasAnEmptyDisk(Pair pair) {
        for (int i = 0; i < 4096; i++) {
            Pair.check("byte " + i + " is 0", pair.x.disk(i) == 0);
        }
        pair.due(pair.count(4), 0);
        pair.due(pair.count(5), 0);
        pair.due(pair.count(6), 0);
        pair.due(pair.count(7), NONE);
        pair.due(pair.count(9), 0);
        pair.due(pair.power(), 0);
    }

    @Sentence(of = "Promise 1", says = "TAPE and OUT are empty.")
    static void newHasEmptyTapeAndOut(Pair pair) {
        pair.due(pair.count(8), 0);
        pair.due(pair.end(1), false);
        pair.due(pair.end(0), true);
        pair.due(pair.outs(), 0);
        pair.due(pair.out(0), NONE);
        pair.due(pair.again(0, 1), NONE);
        pair.due(pair.again(0, 0), 0);
        pair.due(pair.feed(1, 2, 3, 4, 5), 20);
    }

    @Sentence(of = "Promise 2",
        says = "Twenty bytes come behind the TAPE, of each number the highest first: how many it has;")
    static void feedTwenty(Pair pair) {
        pair.due(pair.feed(0x01020304, 0xfffefdfc, MIN, MAX, -1), 20);
        pair.due(pair.digest(), 32);
        sameBytes("the twenty bytes in their order", pair.seen(), Model.h2(Model.hex(
            "01020304fffefdfc800000007fffffffffffffff")));
        for (int have = 0; have <= 21; have++) {
            byte[] first = some(have);
            pair.put(first);
            pair.due(pair.feed(0, 1, -1, 255, 256), have + 20);
            pair.digest();
            sameBytes("behind " + have, pair.seen(), Model.h2(Model.join(first, Model.hex(
                "0000000000000001ffffffff000000ff00000100"))));
        }
    }

    @Sentence(of = "Promise 2", says = "NONE, and none come, if it would have more than 1200.")
    static void feedNoMoreThan1200(Pair pair) {
        for (int have : new int[] {1160, 1179, 1180, 1181, 1182, 1199, 1200}) {
            byte[] first = some(have);
            pair.put(first);
            boolean come = have <= 1180;
            pair.due(pair.feed(0, 0, 0, 0, 0), come ? have + 20 : NONE);
            pair.due(pair.count(8), come ? have + 20 : have);
            pair.digest();
            sameBytes("the bytes of " + have, pair.seen(), Model.h2(come ? Model.join(first, new byte[20]) : first));
        }
    }

    @Sentence(of = "Promise 3", says = "The TAPE has its first n bytes alone: true;")
    static void endKeepsTheFirst(Pair pair) {
        byte[] bytes = some(40);
        for (int n : new int[] {0, 1, 19, 20, 21, 39, 40}) {
            pair.put(bytes);
            pair.due(pair.end(n), true);
            pair.due(pair.count(8), n);
            pair.digest();
            sameBytes("the first " + n, pair.seen(), Model.h2(Model.slice(bytes, 0, n)));
        }
        pair.put(some(1200));
        pair.due(pair.end(1200), true);
        pair.due(pair.end(1199), true);
        pair.due(pair.count(8), 1199);
    }

    @Sentence(of = "Promise 3", says = "false, and nothing happens, if it has fewer,")
    static void endOfFewer(Pair pair) {
        pair.due(pair.end(1), false);
        byte[] bytes = some(40);
        pair.put(bytes);
        for (int n : new int[] {41, 42, 1200, 1201, MAX}) {
            pair.due(pair.end(n), false);
            pair.due(pair.count(8), 40);
        }
        pair.due(pair.end(40), true);
        pair.due(pair.end(7), true);
        pair.due(pair.end(8), false);
        pair.digest();
        sameBytes("what is there still", pair.seen(), Model.h2(Model.slice(bytes, 0, 7)));
    }

    @Sentence(of = "Promise 3", says = "or n is below 0.")
    static void endBelowZero(Pair pair) {
        byte[] bytes = some(20);
        pair.put(bytes);
        for (int n : new int[] {-1, -2, -20, MIN, MIN + 1}) {
            pair.due(pair.end(n), false);
            pair.due(pair.count(8), 20);
        }
        pair.digest();
        sameBytes("all of it", pair.seen(), Model.h2(bytes));
        pair.due(pair.end(-1), false);
        pair.due(pair.end(0), true);
        pair.feed(1, 2, 3, 4, 5);
        pair.due(pair.end(0), true);
        pair.due(pair.count(8), 0);
    }

    @Sentence(of = "Promise 4", says = "OUT's bytes from one on, so many, come behind the TAPE: how many it has;")
    static void againPartsOfOut(Pair pair) {
        for (int[] part : new int[][] {{0, 32}, {0, 31}, {1, 31}, {31, 1}, {0, 1}, {0, 0}, {32, 0}, {7, 20}}) {
            leave32(pair);
            byte[] out = pair.seen();
            pair.feed(9, 8, 7, 6, 5);
            pair.due(pair.again(part[0], part[1]), 20 + part[1]);
            sameBytes("OUT stays", pair.seen(), out);
            pair.digest();
            sameBytes("the bytes come behind", pair.seen(), Model.h2(Model.join(
                Model.hex("0000000900000008000000070000000600000005"), Model.slice(out, part[0], part[1]))));
        }
    }

    @Sentence(of = "Promise 4", says = "NONE, and none come, if OUT has not these,")
    static void againWhatOutHasNot(Pair pair) {
        pair.due(pair.again(0, 1), NONE);
        pair.due(pair.again(1, 0), NONE);
        leave32(pair);
        int[][] not = {{0, 33}, {1, 32}, {31, 2}, {32, 1}, {33, 0}, {33, -1}, {-1, 1}, {-1, 0}, {-1, 33}, {-32, 32},
            {0, -1}, {1, -1}, {32, -32}, {MAX, 0}, {MAX, 1}, {MAX, MAX}, {1, MAX}, {0, MAX}, {MIN, 0}, {MIN, MIN},
            {0, MIN}, {MIN, MAX}, {MAX, MIN}, {MAX - 31, MIN + 32}};
        for (int[] one : not) {
            pair.due(pair.again(one[0], one[1]), NONE);
            pair.due(pair.count(8), 0);
        }
        pair.due(pair.again(0, 32), 32);
        pair.due(pair.again(32, 0), 32);
        pair.due(pair.again(31, 1), 33);
    }

    @Sentence(of = "Promise 4", says = "or it would have more than 1200.")
    static void againNoMoreThan1200(Pair pair) {
        for (int have : new int[] {1167, 1168, 1169, 1199, 1200}) {
            leave32(pair);
            byte[] out = pair.seen();
            byte[] first = some(have);
            pair.put(first);
            int room = 1200 - have;
            pair.due(pair.again(0, 32), room >= 32 ? have + 32 : NONE);
            pair.end(have);
            pair.due(pair.again(0, Math.min(room + 1, 33)), NONE);
            pair.due(pair.count(8), have);
            int most = Math.min(room, 32);
            pair.due(pair.again(0, most), have + most);
            pair.digest();
            sameBytes("the bytes of " + have, pair.seen(), Model.h2(Model.join(first, Model.slice(out, 0, most))));
        }
    }

    @Sentence(of = "Promise 5", says = "Byte i of OUT;")
    static void outFirstAndLast(Pair pair) {
        leave32(pair);
        byte[] due = Model.h2(new byte[0]);
        for (int i = 0; i < 32; i++) {
            pair.due(pair.out(i), due[i] & 255);
        }
        pair.due(pair.out(0), 0xe3);
        pair.due(pair.out(31), 0x55);
    }

    @Sentence(of = "Promise 5", says = "NONE if there is none.")
    static void outBeyond(Pair pair) {
        for (int i : new int[] {-1, 0, 1, MIN, MAX}) {
            pair.due(pair.out(i), NONE);
        }
        pair.put(ones(48)).key(1);
        pair.due(pair.look(0, 1), 49);
        pair.due(pair.out(48), pair.seen()[48] & 255);
        pair.due(pair.out(49), NONE);
        leave32(pair);
        for (int i : new int[] {-1, 32, 33, 48, MIN, MAX}) {
            pair.due(pair.out(i), NONE);
        }
        pair.due(pair.out(31), 0x55);
    }

    @Sentence(of = "Promise 6", says = "How many bytes OUT has.")
    static void outsOfEachSize(Pair pair) {
        pair.due(pair.outs(), 0);
        leave32(pair);
        pair.due(pair.outs(), 32);
        pair.secretKey(ONE);
        pair.look(0, 1);
        pair.due(pair.outs(), 49);
        byte[] asked = pair.head(0);
        for (int i = 0; i < 8; i++) {
            pair.wish(0, Pair.nonce(i, i), ONE).request(0);
            pair.due(pair.outs(), 52);
            asked = Model.join(asked, Model.slice(pair.seen(), 3, 49));
        }
        pair.put(asked, Pair.scalar(3)).issueMany(8);
        pair.due(pair.outs(), 488);
        pair.put(pair.seen()).finalizeMany(0, 8);
        pair.due(pair.outs(), 1168);
        pair.due(pair.out(1167), pair.left()[1167] & 255);
        pair.due(pair.out(1168), NONE);
        leave32(pair);
        pair.due(pair.outs(), 32);
    }

    @Sentence(of = "Promise 10", says = "Uses the TAPE up: OUT is H2 of it (a challenge's DIGEST, perhaps): 32.")
    static void digestOfEachLength(Pair pair) {
        pair.due(pair.digest(), 32);
        sameBytes("of nothing", pair.seen(), Model.hex(
            "e3b0c44298fc1c149afbf4c8996fb92427ae41e4649b934ca495991b7852b855"));
        usedUp(pair, pair.put(Model.text("abc")).digest(), 32);
        sameBytes("of abc", pair.seen(), Model.hex("ba7816bf8f01cfea414140de5dae2223b00361a396177a9cb410ff61f20015ad"));
        // The padding needs nine bytes of a block of 64: 55 leave them, 56 do not.
        for (int have : new int[] {1, 54, 55, 56, 57, 63, 64, 65, 118, 119, 120, 121, 127, 128, 129, 1143, 1144, 1145,
            1199, 1200}) {
            byte[] bytes = some(have);
            usedUp(pair, pair.put(bytes).digest(), 32);
            sameBytes("of " + have, pair.seen(), Model.h2(bytes));
        }
    }
}
