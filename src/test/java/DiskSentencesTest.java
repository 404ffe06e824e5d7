import java.math.BigInteger;

/** Promises 17 to 20: cut, power, disk and count, sentence by sentence. */
final class DiskSentencesTest extends Sentences {
    public static void main(String[] args) {
        run(DiskSentencesTest.class);
    }

    /** KEY 0 of TYPE 2 is made; so many TOKENS of it. */
    private static byte[][] tokens(Pair pair, int many) {
        pair.due(pair.rsaKey(PLAIN), 0);
        byte[][] all = new byte[many][];
        for (int i = 0; i < many; i++) {
            all[i] = pair.ownToken(0, Pair.nonce(20L * i, 200 + i));
        }
        return all;
    }

    @Sentence(of = "Promise 17", says = "So many WRITES more are done, then power goes,")
    static void cutBehindSoMany(Pair pair) {
        byte[][] tokens = tokens(pair, 6);
        int next = 0;
        for (int writes = 0; writes <= 2; writes++) {
            pair.due(pair.cut(writes), true);
            for (int i = 0; i < writes; i++) {
                pair.due(pair.put(tokens[next]).redeem(), 0);
                next++;
                pair.due(pair.count(7), writes - 1 - i);
                pair.due(pair.count(6), 0);
            }
            pair.due(pair.put(tokens[next]).redeem(), DOWN);
            pair.due(pair.count(6), 1);
            pair.due(pair.count(5), next);
            pair.due(pair.power(), next);
        }
    }

    @Sentence(of = "Promise 17", says = "in place of what was told before: true;")
    static void cutAnew(Pair pair) {
        byte[][] tokens = tokens(pair, 4);
        pair.due(pair.cut(0), true);
        pair.due(pair.cut(0), true);
        pair.due(pair.cut(2), true);
        pair.due(pair.count(7), 2);
        pair.due(pair.put(tokens[0]).redeem(), 0);
        pair.due(pair.cut(1000), true);
        pair.due(pair.count(7), 1000);
        pair.due(pair.cut(1), true);
        pair.due(pair.count(7), 1);
        pair.due(pair.put(tokens[1]).redeem(), 0);
        pair.due(pair.count(7), 0);
        pair.due(pair.cut(1), true);
        pair.due(pair.put(tokens[2]).redeem(), 0);
        pair.due(pair.put(tokens[3]).redeem(), DOWN);
    }

    @Sentence(of = "Promise 17", says = "false for a number not 0 to 1000,")
    static void cutOfWrongNumber(Pair pair) {
        int[] wrong = {-2, -1, 1001, 1002, 65536, MIN, MAX};
        for (int writes : wrong) {
            pair.due(pair.cut(writes), false);
            pair.due(pair.count(7), NONE);
        }
        for (int writes : new int[] {0, 1, 999, 1000}) {
            pair.due(pair.cut(writes), true);
            for (int other : wrong) {
                pair.due(pair.cut(other), false);
                pair.due(pair.count(7), writes);
            }
        }
    }

    @Sentence(of = "Promise 17", says = "or if it is DOWN.")
    static void cutWhileDown(Pair pair) {
        byte[][] tokens = tokens(pair, 2);
        pair.due(pair.cut(0), true);
        // Power is told to go, but the disk is not DOWN yet.
        pair.due(pair.cut(0), true);
        pair.due(pair.put(tokens[0]).redeem(), DOWN);
        for (int writes : new int[] {-1, 0, 1, 1000, 1001}) {
            pair.due(pair.cut(writes), false);
            pair.due(pair.count(6), 1);
            pair.due(pair.count(7), 0);
        }
        pair.due(pair.put(tokens[0]).redeem(), DOWN);
        pair.due(pair.power(), 0);
        pair.due(pair.cut(1), true);
        pair.due(pair.put(tokens[0]).redeem(), 0);
        pair.due(pair.put(tokens[1]).redeem(), DOWN);
    }

    @Sentence(of = "Promise 18", says = "Power comes, and does not go any more as told:")
    static void powerComes(Pair pair) {
        byte[][] tokens = tokens(pair, 5);
        pair.due(pair.power(), 0);
        pair.due(pair.count(7), NONE);
        pair.due(pair.put(tokens[0]).redeem(), 0);
        // It is told to go and has not gone: that is called off.
        pair.due(pair.cut(0), true);
        pair.due(pair.power(), 1);
        pair.due(pair.count(7), NONE);
        pair.due(pair.put(tokens[1]).redeem(), 0);
        // It has gone.
        pair.due(pair.cut(0), true);
        pair.due(pair.put(tokens[2]).redeem(), DOWN);
        pair.due(pair.power(), 2);
        pair.due(pair.count(6), 0);
        pair.due(pair.count(7), NONE);
        for (int i = 2; i < 5; i++) {
            pair.due(pair.put(tokens[i]).redeem(), 0);
        }
        pair.due(pair.power(), 5);
        pair.due(pair.power(), 5);
    }

    @Sentence(of = "Promise 18", says = "how many NONCES are spent, by the DISK.")
    static void powerTellsNonces(Pair pair) {
        byte[][] tokens = tokens(pair, 3);
        pair.due(pair.power(), 0);
        for (int i = 0; i < 2; i++) {
            pair.due(pair.put(tokens[i]).redeem(), 0);
            pair.due(pair.power(), i + 1);
            pair.due(pair.put(tokens[i]).redeem(), SPENT);
            pair.due(pair.power(), i + 1);
        }
        pair.cut(0);
        pair.due(pair.put(tokens[2]).redeem(), DOWN);
        pair.due(pair.power(), 2);
        for (int i = 0; i < 110; i++) {
            pair.put(pair.ownToken(0, Pair.nonce(i, i))).redeem();
        }
        pair.due(pair.power(), 112);
    }

    @Sentence(of = "Promise 19", says = "Byte i of the DISK;")
    static void diskBytes(Pair pair) {
        pair.rsaKey(PLAIN);
        byte[] nonce = some(32);
        nonce[0] = 0;
        nonce[1] = 0;
        nonce[2] = 0;
        nonce[3] = 111;
        nonce[31] = (byte) 255;
        pair.due(pair.put(pair.ownToken(0, nonce)).redeem(), 0);
        // SLOT 111 begins at byte 7 * 512 + 13 * 36, and its BLOCK goes on for eight bytes behind it.
        int at = 4052;
        pair.due(pair.disk(at - 1), 0);
        for (int i = 0; i < 4; i++) {
            pair.due(pair.disk(at + i), i == 3 ? 1 : 0);
        }
        for (int i = 0; i < 32; i++) {
            pair.due(pair.disk(at + 4 + i), nonce[i] & 255);
        }
        pair.due(pair.disk(at + 35), 255);
        for (int i = at + 36; i < 4096; i++) {
            pair.due(pair.disk(i), 0);
        }
        pair.due(pair.disk(0), 0);
    }

    @Sentence(of = "Promise 19", says = "NONE if there is none such.")
    static void diskBeyond(Pair pair) {
        for (int i : new int[] {-2, -1, 4096, 4097, 8192, MIN, MAX}) {
            pair.due(pair.disk(i), NONE);
        }
        for (int i : new int[] {0, 1, 511, 512, 4094, 4095}) {
            pair.due(pair.disk(i), 0);
        }
    }

    @Sentence(of = "Promise 20", says = "0 KEYS,")
    static void countKeys(Pair pair) {
        for (int i = 0; i < 6; i++) {
            pair.due(pair.count(0), i);
            pair.due(pair.secretKey(ZERO), REFUSED);
            pair.due(pair.count(0), i);
            pair.due(pair.secretKey(ONE), i);
        }
        pair.due(pair.secretKey(ONE), FULL);
        pair.retire(0);
        pair.due(pair.count(0), 6);
    }

    @Sentence(of = "Promise 20", says = "1 of them LIVE,")
    static void countLive(Pair pair) {
        pair.due(pair.count(1), 0);
        for (int i = 0; i < 6; i++) {
            pair.secretKey(ONE);
            pair.due(pair.count(1), i + 1);
        }
        for (int i = 0; i < 6; i++) {
            pair.retire(5 - i);
            pair.retire(5 - i);
            pair.due(pair.count(1), 5 - i);
        }
    }

    @Sentence(of = "Promise 20", says = "2 ASKINGS,")
    static void countAskings(Pair pair) {
        pair.rsaKey(PLAIN);
        for (int i = 0; i < 60; i++) {
            pair.due(pair.count(2), i);
            pair.wish(0, NONCE, TWO).request(0);
        }
        pair.due(pair.count(2), 60);
        pair.due(pair.wish(0, NONCE, TWO).request(0), FULL);
        pair.due(pair.count(2), 60);
    }

    @Sentence(of = "Promise 20", says = "3 of them open,")
    static void countOpen(Pair pair) {
        pair.rsaKey(PLAIN);
        pair.due(pair.count(3), 0);
        byte[][] answers = new byte[3][];
        for (int i = 0; i < 3; i++) {
            pair.wish(0, Pair.nonce(i, i), TWO).request(0);
            answers[i] = pair.answerTo(1);
            pair.due(pair.count(3), i + 1);
        }
        for (int i : new int[] {1, 0, 2}) {
            int open = pair.count(3);
            pair.due(pair.put(ones(66)).finalize(i), BAD);
            pair.due(pair.count(3), open);
            pair.due(pair.put(answers[i]).finalize(i), 164);
            pair.due(pair.count(3), open - 1);
        }
        pair.due(pair.count(3), 0);
        pair.due(pair.count(2), 3);
    }

    @Sentence(of = "Promise 20", says = "4 NONCES that are spent (by the DISK),")
    static void countSpent(Pair pair) {
        byte[][] tokens = tokens(pair, 3);
        pair.due(pair.count(4), 0);
        pair.put(tokens[0]).redeem();
        pair.due(pair.count(4), 1);
        pair.due(pair.put(tokens[0]).redeem(), SPENT);
        pair.due(pair.put(Pair.bent(tokens[1], 98)).redeem(), BAD);
        pair.due(pair.count(4), 1);
        pair.cut(1);
        pair.put(tokens[1]).redeem();
        pair.due(pair.count(4), 2);
        pair.due(pair.put(tokens[2]).redeem(), DOWN);
        pair.due(pair.count(4), 2);
        pair.power();
        pair.due(pair.count(4), 2);
    }

    @Sentence(of = "Promise 20", says = "5 WRITES done,")
    static void countWrites(Pair pair) {
        byte[][] tokens = tokens(pair, 3);
        pair.due(pair.count(5), 0);
        pair.put(tokens[0]).redeem();
        pair.due(pair.count(5), 1);
        pair.due(pair.put(tokens[0]).redeem(), SPENT);
        pair.due(pair.count(5), 1);
        pair.cut(0);
        pair.due(pair.put(tokens[1]).redeem(), DOWN);
        pair.due(pair.count(5), 1);
        pair.power();
        pair.due(pair.count(5), 1);
        pair.due(pair.put(tokens[1]).redeem(), 0);
        pair.due(pair.put(tokens[2]).redeem(), 0);
        pair.due(pair.count(5), 3);
    }

    @Sentence(of = "Promise 20", says = "6 1 if it is DOWN, else 0,")
    static void countDown(Pair pair) {
        byte[][] tokens = tokens(pair, 2);
        pair.due(pair.count(6), 0);
        pair.cut(1);
        pair.due(pair.count(6), 0);
        pair.put(tokens[0]).redeem();
        pair.due(pair.count(7), 0);
        pair.due(pair.count(6), 0);
        pair.due(pair.put(tokens[1]).redeem(), DOWN);
        pair.due(pair.count(6), 1);
        pair.cut(1);
        pair.due(pair.count(6), 1);
        pair.power();
        pair.due(pair.count(6), 0);
    }

    @Sentence(of = "Promise 20",
        says = "7 how many WRITES are still done till power goes (NONE if it does not go; 0 if it is DOWN),")
    static void countWritesLeft(Pair pair) {
        byte[][] tokens = tokens(pair, 4);
        pair.due(pair.count(7), NONE);
        pair.put(tokens[0]).redeem();
        pair.due(pair.count(7), NONE);
        pair.cut(1000);
        pair.due(pair.count(7), 1000);
        pair.put(tokens[1]).redeem();
        pair.due(pair.count(7), 999);
        pair.cut(1);
        pair.due(pair.count(7), 1);
        pair.due(pair.put(tokens[1]).redeem(), SPENT);
        pair.due(pair.count(7), 1);
        pair.put(tokens[2]).redeem();
        pair.due(pair.count(7), 0);
        pair.due(pair.put(tokens[3]).redeem(), DOWN);
        pair.due(pair.count(7), 0);
        pair.due(pair.put(tokens[3]).redeem(), DOWN);
        pair.due(pair.count(7), 0);
        pair.power();
        pair.due(pair.count(7), NONE);
    }

    @Sentence(of = "Promise 20", says = "8 bytes of the TAPE,")
    static void countTape(Pair pair) {
        pair.due(pair.count(8), 0);
        for (int i = 1; i <= 60; i++) {
            pair.feed(i, i, i, i, i);
            pair.due(pair.count(8), 20 * i);
        }
        pair.due(pair.feed(1, 1, 1, 1, 1), NONE);
        pair.due(pair.count(8), 1200);
        pair.end(1199);
        pair.due(pair.count(8), 1199);
        pair.digest();
        pair.due(pair.count(8), 0);
        pair.again(0, 1);
        pair.due(pair.count(8), 1);
    }

    @Sentence(of = "Promise 20", says = "9 TOKENS redeemed.")
    static void countRedeemed(Pair pair) {
        byte[][] tokens = tokens(pair, 3);
        pair.due(pair.count(9), 0);
        pair.put(tokens[0]).redeem();
        pair.due(pair.count(9), 1);
        pair.due(pair.put(tokens[0]).redeem(), SPENT);
        pair.due(pair.put(Pair.bent(tokens[1], 98)).redeem(), BAD);
        pair.due(pair.count(9), 1);
        pair.cut(0);
        pair.due(pair.put(tokens[1]).redeem(), DOWN);
        pair.due(pair.count(9), 1);
        pair.power();
        pair.due(pair.count(9), 1);
        pair.put(tokens[1]).redeem();
        pair.put(tokens[2]).redeem();
        pair.due(pair.count(9), 3);
    }

    @Sentence(of = "Promise 20", says = "NONE for another what.")
    static void countOther(Pair pair) {
        pair.secretKey(BigInteger.TEN);
        for (int what : new int[] {-2, -1, 10, 11, 256, 257, MIN, MAX}) {
            pair.due(pair.count(what), NONE);
        }
        pair.due(pair.count(0), 1);
        pair.due(pair.count(9), 0);
    }
}
