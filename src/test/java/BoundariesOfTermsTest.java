import java.util.function.ToLongFunction;

/** The boundaries that "What it is" and "Terms" name: a test for each sentence that names one. */
public final class BoundariesOfTermsTest extends TestBase {
    private BoundariesOfTermsTest() {
    }

    public static void main(String[] args) {
        Sentences.holds("What it is", "at most 512 calls after it has been made",
                BoundariesOfTermsTest::theLastCallIsAnswered);
        Sentences.holds("What it is", "An object is used for at most 512 calls",
                BoundariesOfTermsTest::allCallsOfOneKindAreAnswered);
        mixAndKeys();
        filesAndShares();
        records();
        serversAndBestNumber();
        refusals();
        Due.finish();
    }

    private static void mixAndKeys() {
        term("then xor itself shifted right by 15 (zeros coming in)", BoundariesOfTermsTest::zerosComeIn);
        term("wrapping", BoundariesOfTermsTest::mixWraps);
        term("A WRITE KEY w is any int", BoundariesOfTermsTest::anyIntIsAWriteKey);
    }

    private static void filesAndShares() {
        term("there are at most 6", BoundariesOfTermsTest::sixFiles);
        term("PLACES 0 .. N - 1 are the servers", BoundariesOfTermsTest::places);
        term("K shares suffice", BoundariesOfTermsTest::justEnoughShares);
        term("NUMBER 1, 2, ..", BoundariesOfTermsTest::numbersFromOneOn);
        term("WORDS 0 .. K - 1 (ints)", BoundariesOfTermsTest::wordsAreInts);
        term("word i xor MIX(READ KEY, NUMBER * 8 + i)", BoundariesOfTermsTest::theLastCipherWord);
        term("BYTES (0 .. 255)", BoundariesOfTermsTest::leastAndGreatestBytes);
        term("byte b (0 the lowest .. 3)", BoundariesOfTermsTest::eachByteForItself);
        term("(the 0th is 1)", BoundariesOfTermsTest::theZerothPower);
        term("(there is just one such)", BoundariesOfTermsTest::anySharesDecode);
    }

    private static void records() {
        term("hold for each NUMBER ever written the ROOT and the SEAL",
                BoundariesOfTermsTest::notesOfTheFirstAndTheLast);
        term("hold for each NUMBER ever written", BoundariesOfTermsTest::notesOfANumberNobodyTook);
        term("A record at place s is SOUND if its NUMBER was written for the file",
                BoundariesOfTermsTest::numbersNeverWritten);
        term("was written for the file", BoundariesOfTermsTest::numbersOfAnotherFile);
        term("MIX of its share and s + 100 is its fingerprint of place s",
                BoundariesOfTermsTest::everyBitOfTheShare);
        term("the ROOT of its fingerprints and NUMBER is the one NOTED for that NUMBER",
                BoundariesOfTermsTest::everyFingerprint);
        term("and its SEAL too", BoundariesOfTermsTest::everyBitOfTheSeal);
    }

    private static void serversAndBestNumber() {
        term("SERVERS are each UP (at first) or not, and STUCK (not at first) or not",
                BoundariesOfTermsTest::serversAtFirst);
        term("a STUCK server takes no record, though it seems to",
                BoundariesOfTermsTest::stuckServersTakeNothing);
        term("What a server holds stays through all that", BoundariesOfTermsTest::whatIsHeldStays);
        term("A record is SEEN if its server is UP", BoundariesOfTermsTest::seenRecords);
        term("the greatest NUMBER of which K or more records are SEEN and SOUND",
                BoundariesOfTermsTest::bestOfJustEnough);
        term("0 without any", BoundariesOfTermsTest::noBestNumber);
    }

    private static void refusals() {
        term("Every call first tests its arguments in their order",
                BoundariesOfTermsTest::argumentsBeforeTheRest);
        term("a key under which nothing is stored", BoundariesOfTermsTest::keysWithNothingUnderThem);
        term("numbers out of range, answer REFUSED", BoundariesOfTermsTest::numbersOutOfRange);
        term("The answer of word and share where there is none", BoundariesOfTermsTest::none);
    }

    private static void term(String sentence, Runnable test) {
        Sentences.holds("Terms", sentence, test);
    }

    /** An object with 6 files, as many versions of each as there can be, after 511 calls. */
    private static ShareGrid after511Calls() {
        ShareGrid g = new ShareGrid(4, 7);
        int calls = 0;
        for (; calls < 6; calls++) {
            g.create(calls);
        }
        for (; calls < 10; calls++) {
            g.draft(calls - 6, calls);
        }
        for (; calls < 508; calls++) {
            g.write(calls % 6);
        }
        g.read(Terms.readKey(5));
        g.tamper(0, 0, 0, 1);
        g.picture(5, 6);
        return g;
    }

    private static void theLastCallIsAnswered() {
        int verifyKey = Terms.verifyKey(0);
        due("key", after511Calls().key(5, 1), 213031190);
        due("create", after511Calls().create(6), FULL);
        due("create again", after511Calls().create(5), REFUSED);
        due("draft", after511Calls().draft(3, 1), 0);
        due("write", after511Calls().write(5), FULL);
        due("read", after511Calls().read(Terms.readKey(0)), 30);
        due("word", after511Calls().word(3), 9);
        due("sound", after511Calls().sound(verifyKey), 6);
        due("best", after511Calls().best(verifyKey), 30);
        due("repair", after511Calls().repair(verifyKey), 1);
        due("server", after511Calls().server(6, false, true), 0);
        due("tamper", after511Calls().tamper(5, 6, 9, 1), 0);
        due("picture", after511Calls().picture(5, 6), 0);
        due("fallBack", after511Calls().fallBack(5, 6), 0);
        due("wipe", after511Calls().wipe(5, 6), 0);
        due("share", after511Calls().share(5, 6, 1), 30);
        due("times", after511Calls().times(255, 255), 226);
        due("count", after511Calls().count(15), 30);
    }

    /** A call made again and again, behind the four that give it something to work on. */
    private static void dueToTheLastCall(String call, ToLongFunction<ShareGrid> made, long answer) {
        ShareGrid g = created(1, 7);
        g.write(W);
        g.read(R);
        g.picture(0, 6);
        for (int calls = 5; calls <= 512; calls++) {
            due(call + " as call " + calls, made.applyAsLong(g), answer);
        }
    }

    private static void allCallsOfOneKindAreAnswered() {
        dueToTheLastCall("key", g -> g.key(5, 1), 213031190);
        dueToTheLastCall("create", g -> g.create(W), REFUSED);
        dueToTheLastCall("draft", g -> g.draft(0, 1), 0);
        dueToTheLastCall("read", g -> g.read(R), 1);
        dueToTheLastCall("word", g -> g.word(0), 0);
        dueToTheLastCall("sound", g -> g.sound(V), 7);
        dueToTheLastCall("best", g -> g.best(V), 1);
        dueToTheLastCall("repair", g -> g.repair(V), 0);
        dueToTheLastCall("server", g -> g.server(6, false, true), 0);
        dueToTheLastCall("tamper", g -> g.tamper(0, 6, 9, 1), 0);
        dueToTheLastCall("picture", g -> g.picture(0, 6), 0);
        dueToTheLastCall("fallBack", g -> g.fallBack(0, 6), 0);
        dueToTheLastCall("wipe", g -> g.wipe(0, 6), 0);
        dueToTheLastCall("share", g -> g.share(0, 6, 1), 1);
        dueToTheLastCall("times", g -> g.times(2, 128), 29);
        dueToTheLastCall("count", g -> g.count(1), 7);
        ShareGrid g = created(1, 7);
        for (int calls = 2; calls <= 512; calls++) {
            due("write as call " + calls, g.write(W), calls <= 31 ? 7 : FULL);
        }
    }

    private static void dueKeys(int[][] rows) {
        ShareGrid g = new ShareGrid(1, 1);
        for (int[] row : rows) {
            for (int step = 1; step <= 3; step++) {
                due("key(" + row[0] + ", " + step + ")", g.key(row[0], step), row[step]);
            }
        }
    }

    /** Keys whose products are below 0, where ones coming in would tell. */
    private static void zerosComeIn() {
        dueKeys(new int[][] {
            {1, -2054067081, -2030760990, -572743158},
            {MIN, -1547262305, 1757175080, 872549772},
            {MAX, -93426570, 897222557, 1669224714},
            {MAX - 1, -1733942484, -1757258455, -1180654898}
        });
    }

    private static void mixWraps() {
        dueKeys(new int[][] {
            {0, 600286879, -390243032, 767246078},
            {-1, 2054122614, -1250195555, 1563895192},
            {MIN + 1, 93351031, 116657122, -467283464}
        });
        // the seal mixes fingerprints and the key as second numbers, so that their products wrap too
        int[] writeKeys = {MIN, MAX, 0, -1};
        int[] sealsOfOnePlace = {-1768778606, 1427425960, 1174899124, 186051713};
        int[] sealsOfSeven = {-728112678, -290807665, 1538117526, -2034273158};
        for (int i = 0; i < 4; i++) {
            ShareGrid one = new ShareGrid(1, 1);
            one.create(writeKeys[i]);
            one.write(writeKeys[i]);
            due("seal of one place, write key " + writeKeys[i], one.share(0, 0, 2), sealsOfOnePlace[i]);
            ShareGrid seven = new ShareGrid(4, 7);
            seven.create(writeKeys[i]);
            draftAll(seven, MIN, MAX, -1, 0);
            seven.write(writeKeys[i]);
            due("seal of seven places, write key " + writeKeys[i], seven.share(0, 6, 2), sealsOfSeven[i]);
        }
    }

    private static int writeKeyOfReadKey(int readKey) {
        return Terms.firstOfMix(1, readKey);
    }

    private static int writeKeyOfVerifyKey(int verifyKey) {
        return writeKeyOfReadKey(Terms.firstOfMix(2, verifyKey));
    }

    /** The least, the greatest, 0 and its neighbours, as WRITE KEY, as READ KEY and as VERIFY KEY. */
    private static void anyIntIsAWriteKey() {
        for (int key : new int[] {MIN, MAX, -1, 0, 1}) {
            dueUse("write key " + key, key);
            dueUse("read key " + key, writeKeyOfReadKey(key));
            dueUse("verify key " + key, writeKeyOfVerifyKey(key));
        }
    }

    private static void dueUse(String which, int writeKey) {
        ShareGrid g = new ShareGrid(2, 3);
        int readKey = g.key(writeKey, 1);
        int verifyKey = g.key(writeKey, 3);
        due(which + ": nothing under it yet", g.best(verifyKey), REFUSED);
        due(which + ": create", g.create(writeKey), 0);
        draftAll(g, 3, -4);
        due(which + ": write", g.write(writeKey), 3);
        due(which + ": read", g.read(readKey), 1);
        dueWords(which, g, 3, -4);
        g.wipe(0, 0);
        due(which + ": sound", g.sound(verifyKey), 2);
        due(which + ": best", g.best(verifyKey), 1);
        due(which + ": repair", g.repair(verifyKey), 1);
        due(which + ": sound again", g.sound(verifyKey), 3);
        due(which + ": a file of another key", g.create(OTHER), 1);
        due(which + ": the other has no version", g.best(OTHER_V), 0);
    }

    private static void sixFiles() {
        ShareGrid g = new ShareGrid(1, 2);
        due("none", g.count(0), 0);
        for (int f = 0; f < 6; f++) {
            due("create", g.create(f), f);
            due("files", g.count(0), f + 1);
            g.draft(0, 70 + f);
            due("a version", g.write(f), 2);
        }
        due("a seventh", g.create(6), FULL);
        due("six", g.count(0), 6);
        for (int f = 0; f < 6; f++) {
            due("file " + f + " has its own version", g.read(Terms.readKey(f)), 1);
            dueWords("file " + f, g, 70 + f);
        }
        due("nothing is stored for the seventh", g.read(Terms.readKey(6)), REFUSED);
    }

    private static void places() {
        for (int n = 1; n <= 7; n++) {
            ShareGrid g = written(1, n);
            due("N " + n + ": the first place", g.share(0, 0, 1), 1);
            due("N " + n + ": the last place", g.share(0, n - 1, 1), 1);
            due("N " + n + ": as many records", g.sound(V), n);
            for (int s : outside(0, n - 1)) {
                due("N " + n + ": server " + s, g.server(s, false, false), REFUSED);
                due("N " + n + ": no record at " + s, g.share(0, s, 1), NONE);
            }
        }
    }

    private static void justEnoughShares() {
        for (int k = 1; k <= 4; k++) {
            for (int n = k; n <= 7; n++) {
                int least = (1 << k) - 1;
                for (int set : new int[] {least, least << n - k}) {
                    String which = "K " + k + ", N " + n + ", servers " + Integer.toBinaryString(set);
                    ShareGrid g = written(k, n);
                    upJust(g, set & set - 1);
                    due(which + " less one", g.read(R), LOST);
                    upJust(g, set);
                    due(which, g.read(R), 1);
                    dueWords(which, g, words(k));
                }
            }
        }
    }

    private static void numbersFromOneOn() {
        ShareGrid g = created(1, 2);
        due("none at first", g.count(10), 0);
        for (int number = 1; number <= 30; number++) {
            g.write(W);
            due("number " + number, g.share(0, 1, 1), number);
            due("read number " + number, g.read(R), number);
        }
    }

    private static void wordsAreInts() {
        int[][] rows = {{MIN, MAX, -1, 0}, {0, 0, 0, 0}, {-1, -1, -1, -1}, {MAX, 1, MIN, MIN}};
        for (int k = 1; k <= 4; k++) {
            for (int[] row : rows) {
                int[] words = java.util.Arrays.copyOf(row, k);
                ShareGrid g = created(k, 7);
                draftAll(g, words);
                g.write(W);
                upJust(g, 0b1111000);
                g.read(R);
                dueWords("K " + k, g, words);
                due("K " + k + ": no word more", g.word(k), NONE);
            }
        }
    }

    /** With the last NUMBER and the last word, NUMBER * 8 + i is as great as it gets. */
    private static void theLastCipherWord() {
        ShareGrid g = created(4, 7);
        draftAll(g, words(4));
        for (int number = 1; number <= 30; number++) {
            g.write(W);
        }
        int[] cipher = Terms.cipher(R, 30, words(4));
        for (int s = 0; s < 7; s++) {
            due("share at " + s, g.share(0, s, 0), Terms.share(cipher, s));
        }
        due("read", g.read(R), 30);
        dueWords("number 30", g, words(4));
    }

    /** A grid of seven servers with a first version that has these CIPHER WORDS. */
    private static ShareGrid enciphered(int... cipherWords) {
        ShareGrid g = created(cipherWords.length, 7);
        // the cipher is an xor, so that enciphering the CIPHER WORDS gives the words
        draftAll(g, Terms.cipher(R, 1, cipherWords));
        g.write(W);
        return g;
    }

    private static void leastAndGreatestBytes() {
        due("0 and 0", enciphered(0, 0).share(0, 6, 0), 0);
        due("255 and 0", enciphered(-1, 0).share(0, 6, 0), -1);
        due("255 times 1", enciphered(0, -1).share(0, 0, 0), -1);
        due("255 and 255 times 1", enciphered(-1, -1).share(0, 0, 0), 0);
        due("128 times 2", enciphered(0, 0x80808080).share(0, 1, 0), 0x1d1d1d1d);
        due("127 times 2", enciphered(0, 0x7f7f7f7f).share(0, 1, 0), 0xfefefefe);
        due("255 times 2", enciphered(0, -1).share(0, 1, 0), 0xe3e3e3e3);
        due("1 times 7 to the third", enciphered(0, 0, 0, 0x01010101).share(0, 6, 0), 0x6b6b6b6b);
    }

    private static void eachByteForItself() {
        for (int b = 0; b < 4; b++) {
            due("128 times 2 in byte " + b, enciphered(0, 0x80 << 8 * b).share(0, 1, 0), 0x1d << 8 * b);
            due("255 times 2 in byte " + b, enciphered(0, 0xff << 8 * b).share(0, 1, 0), 0xe3 << 8 * b);
        }
    }

    private static void theZerothPower() {
        ShareGrid alone = enciphered(-123456789);
        ShareGrid first = enciphered(-123456789, 0, 0, 0);
        for (int s = 0; s < 7; s++) {
            due("K 1, place " + s, alone.share(0, s, 0), -123456789);
            due("K 4, place " + s, first.share(0, s, 0), -123456789);
        }
    }

    /** Every choice of K of seven places decodes to the same words. */
    private static void anySharesDecode() {
        int[] words = {MIN, 0x00ff7f80, -1, MAX};
        for (int k = 1; k <= 4; k++) {
            int[] some = java.util.Arrays.copyOf(words, k);
            for (int set = 0; set < 128; set++) {
                if (Integer.bitCount(set) == k) {
                    ShareGrid g = created(k, 7);
                    draftAll(g, some);
                    g.write(W);
                    upJust(g, set);
                    g.read(R);
                    dueWords("K " + k + ", servers " + Integer.toBinaryString(set), g, some);
                }
            }
        }
    }

    /** The record of the first NUMBER is SOUND still when the last one is written. */
    private static void notesOfTheFirstAndTheLast() {
        ShareGrid g = written(1, 2);
        g.server(0, true, true);
        for (int number = 2; number <= 30; number++) {
            g.write(W);
        }
        due("the first", g.share(0, 0, 1), 1);
        due("the last", g.share(0, 1, 1), 30);
        due("both are sound", g.sound(V), 2);
        due("the last is best", g.best(V), 30);
        g.server(1, false, false);
        due("the first alone", g.best(V), 1);
    }

    /** A record made to be the one that nobody took is SOUND. */
    private static void notesOfANumberNobodyTook() {
        ShareGrid g = written(1, 1);
        int share = (int) g.share(0, 0, 0);
        int seal = (int) g.share(0, 0, 2);
        g.server(0, true, true);
        g.draft(0, -7);
        due("nobody takes it", g.write(W), 0);
        int[] cipher = Terms.cipher(R, 2, new int[] {-7});
        int[] prints = Terms.fingerprints(cipher, 1);
        g.tamper(0, 0, 0, share ^ Terms.share(cipher, 0));
        g.tamper(0, 0, 1, 1 ^ 2);
        g.tamper(0, 0, 2, seal ^ Terms.seal(Terms.root(prints, 2), W));
        g.tamper(0, 0, 3, Terms.mix(share, 100) ^ prints[0]);
        due("sound", g.sound(V), 1);
        due("read", g.read(R), 2);
        dueWords("number 2", g, -7);
    }

    /** Makes of the record on server 0 one with this NUMBER, ROOT and SEAL, of fingerprints that fit. */
    private static void forge(ShareGrid g, int number, int root, int seal) {
        int was = (int) g.share(0, 0, 1);
        int[] prints = Terms.fingerprints(Terms.cipher(R, was, words(1)), 3);
        g.tamper(0, 0, 1, was ^ number);
        g.tamper(0, 0, 2, (int) g.share(0, 0, 2) ^ seal);
        g.tamper(0, 0, 5, prints[2] ^ Terms.fingerprintForRoot(prints, number, 2, root));
    }

    /** With the ROOT 0 and the SEAL 0, as if a NUMBER that nobody wrote had them NOTED. */
    private static void numbersNeverWritten() {
        for (int versions : new int[] {1, 2, 29, 30}) {
            for (int number : new int[] {-1, 0, versions + 1, 31, 32, 255, MIN, MAX}) {
                ShareGrid g = written(1, 3);
                for (int v = 1; v < versions; v++) {
                    g.write(W);
                }
                String which = "number " + number + " behind " + versions;
                forge(g, number, 0, 0);
                due(which + ": sound", g.sound(V), 2);
                due(which + ": best", g.best(V), versions);
                due(which + ": repair", g.repair(V), 1);
                due(which + ": sound again", g.sound(V), 3);
            }
        }
    }

    private static void numbersOfAnotherFile() {
        ShareGrid g = written(1, 3);
        g.create(OTHER);
        g.write(OTHER);
        g.write(OTHER);
        int[] prints = Terms.fingerprints(Terms.cipher(OTHER_R, 2, words(1)), 3);
        int root = Terms.root(prints, 2);
        forge(g, 2, root, Terms.seal(root, OTHER));
        due("sound", g.sound(V), 2);
        due("best", g.best(V), 1);
        due("the other file's", g.sound(OTHER_V), 3);
    }

    /** Changes the part bit by bit: the record is not SOUND, and is when the bit is changed back. */
    private static void dueEachBit(ShareGrid g, int s, int what) {
        for (int bit = 0; bit < 32; bit++) {
            String which = "part " + what + " at " + s + ", bit " + bit;
            int sound = g.sound(V);
            g.tamper(0, s, what, 1 << bit);
            due(which, g.sound(V), sound - 1);
            g.tamper(0, s, what, 1 << bit);
            due(which + " and back", g.sound(V), sound);
        }
    }

    private static void everyBitOfTheShare() {
        dueEachBit(written(2, 7), 0, 0);
        dueEachBit(written(2, 7), 6, 0);
    }

    private static void everyFingerprint() {
        for (int what = 3; what <= 9; what++) {
            dueEachBit(written(2, 7), 0, what);
            dueEachBit(written(2, 7), 6, what);
        }
    }

    private static void everyBitOfTheSeal() {
        dueEachBit(written(2, 7), 0, 2);
        dueEachBit(written(2, 7), 6, 2);
    }

    private static void serversAtFirst() {
        for (int n = 1; n <= 7; n++) {
            ShareGrid g = created(1, n);
            due("N " + n + ": all up", g.count(1), n);
            due("N " + n + ": none stuck", g.write(W), n);
        }
    }

    /** None, one, .. all of the servers STUCK. */
    private static void stuckServersTakeNothing() {
        for (int stuck = 0; stuck <= 4; stuck++) {
            ShareGrid g = written(2, 4);
            for (int s = 0; s < stuck; s++) {
                g.server(s, true, true);
            }
            due(stuck + " stuck: all seem to be there", g.count(1), 4);
            due(stuck + " stuck: a write", g.write(W), 4 - stuck);
            due(stuck + " stuck: it is written", g.count(10), 2);
            for (int s = 0; s < 4; s++) {
                due(stuck + " stuck: number at " + s, g.share(0, s, 1), s < stuck ? 1 : 2);
            }
            due(stuck + " stuck: all are sound", g.sound(V), 4);
            for (int s = 0; s < 2; s++) {
                g.wipe(0, s);
            }
            due(stuck + " stuck: repair", g.repair(V), stuck == 3 ? LOST : Math.max(0, 2 - stuck));
            due(stuck + " stuck: nothing at 0", g.share(0, 0, 1), stuck > 0 ? NONE : 2);
            due(stuck + " stuck: nothing at 1", g.share(0, 1, 1), stuck > 1 ? NONE : 2);
        }
    }

    private static void whatIsHeldStays() {
        ShareGrid g = written(2, 3);
        g.picture(0, 0);
        g.write(W);
        long share = g.share(0, 0, 0);
        for (int state = 0; state < 4; state++) {
            g.server(0, (state & 1) != 0, (state & 2) != 0);
            due("state " + state + ": the share", g.share(0, 0, 0), share);
            due("state " + state + ": the number", g.share(0, 0, 1), 2);
        }
        g.server(0, true, false);
        due("sound as before", g.sound(V), 3);
        due("the picture too", g.fallBack(0, 0), 0);
        due("of the former number", g.share(0, 0, 1), 1);
        due("sound", g.sound(V), 3);
    }

    private static void seenRecords() {
        ShareGrid g = written(1, 7);
        for (int ups = 0; ups <= 7; ups++) {
            upJust(g, (1 << ups) - 1);
            due(ups + " up: sound", g.sound(V), ups);
            due(ups + " up: best", g.best(V), ups == 0 ? 0 : 1);
            due(ups + " up: read", g.read(R), ups == 0 ? LOST : 1);
        }
        g.server(0, true, true);
        due("a stuck one is seen", g.sound(V), 7);
        upJust(g, 1 << 6);
        due("the last place alone", g.read(R), 1);
    }

    /** One less than K, K, and one more of the later NUMBER, all K and more of the former. */
    private static void bestOfJustEnough() {
        for (int k = 1; k <= 3; k++) {
            for (int later = 0; later <= 7; later++) {
                ShareGrid g = written(k, 7);
                for (int s = later; s < 7; s++) {
                    g.server(s, true, true);
                }
                g.write(W);
                int former = 7 - later >= k ? 1 : 0;
                due("K " + k + ", " + later + " of the later", g.best(V), later >= k ? 2 : former);
            }
        }
    }

    private static void noBestNumber() {
        ShareGrid g = created(2, 3);
        due("no version", g.best(V), 0);
        allUp(g, false);
        due("no server up", g.best(V), 0);
        allUp(g, true);
        for (int s = 0; s < 3; s++) {
            g.server(s, true, true);
        }
        g.write(W);
        due("a version that nobody took", g.best(V), 0);
        allUp(g, true);
        g.write(W);
        due("all", g.best(V), 2);
        g.wipe(0, 0);
        due("K of them", g.best(V), 2);
        g.tamper(0, 1, 0, 1);
        due("one less", g.best(V), 0);
        g.wipe(0, 1);
        g.wipe(0, 2);
        due("no record", g.best(V), 0);
    }

    /** A wrong key is REFUSED also where a right one would be LOST or FULL. */
    private static void argumentsBeforeTheRest() {
        ShareGrid g = created(1, 2);
        allUp(g, false);
        due("write, none up", g.write(OTHER), REFUSED);
        due("read, none up", g.read(OTHER_R), REFUSED);
        due("repair, none up", g.repair(OTHER_V), REFUSED);
        due("the right key", g.write(W), LOST);
        allUp(g, true);
        for (int number = 1; number <= 30; number++) {
            g.write(W);
        }
        due("write, all numbers written", g.write(OTHER), REFUSED);
        due("the right key", g.write(W), FULL);
        for (int f = 1; f < 6; f++) {
            g.create(f * 1000);
        }
        due("create, six files", g.create(W), REFUSED);
        due("create, six files", g.create(5000), REFUSED);
        due("a new key", g.create(6000), FULL);
    }

    private static void dueNothingUnder(String when, ShareGrid g, int key) {
        due(when + ": write(" + key + ")", g.write(key), REFUSED);
        due(when + ": read(" + key + ")", g.read(key), REFUSED);
        due(when + ": sound(" + key + ")", g.sound(key), REFUSED);
        due(when + ": best(" + key + ")", g.best(key), REFUSED);
        due(when + ": repair(" + key + ")", g.repair(key), REFUSED);
    }

    private static void keysWithNothingUnderThem() {
        ShareGrid empty = new ShareGrid(2, 3);
        for (int key : new int[] {0, 1, -1, MIN, MAX, W, R, V}) {
            dueNothingUnder("a new object", empty, key);
        }
        ShareGrid g = written(2, 3);
        for (int key : new int[] {0, 1, -1, MIN, MAX, OTHER, OTHER_R, OTHER_V}) {
            dueNothingUnder("one file", g, key);
        }
        due("write with a read key", g.write(R), REFUSED);
        due("write with a verify key", g.write(V), REFUSED);
        due("read with a write key", g.read(W), REFUSED);
        due("read with a verify key", g.read(V), REFUSED);
        due("sound with a write key", g.sound(W), REFUSED);
        due("sound with a read key", g.sound(R), REFUSED);
        due("best with a write key", g.best(W), REFUSED);
        due("best with a read key", g.best(R), REFUSED);
        due("repair with a write key", g.repair(W), REFUSED);
        due("repair with a read key", g.repair(R), REFUSED);
    }

    private static void numbersOutOfRange() {
        ShareGrid g = written(2, 3);
        g.picture(0, 0);
        for (int i : outside(0, 1)) {
            due("draft(" + i + ")", g.draft(i, 1), REFUSED);
        }
        for (int f : outside(0, 0)) {
            due("tamper, file " + f, g.tamper(f, 0, 0, 1), REFUSED);
            due("picture, file " + f, g.picture(f, 0), REFUSED);
            due("fallBack, file " + f, g.fallBack(f, 0), REFUSED);
            due("wipe, file " + f, g.wipe(f, 0), REFUSED);
        }
        for (int s : outside(0, 2)) {
            due("server " + s, g.server(s, true, false), REFUSED);
            due("tamper, server " + s, g.tamper(0, s, 0, 1), REFUSED);
            due("picture, server " + s, g.picture(0, s), REFUSED);
            due("fallBack, server " + s, g.fallBack(0, s), REFUSED);
            due("wipe, server " + s, g.wipe(0, s), REFUSED);
        }
        for (int what : outside(0, 5)) {
            due("tamper, what " + what, g.tamper(0, 0, what, 1), REFUSED);
        }
        for (int b : outside(0, 255)) {
            due("times(" + b + ", 0)", g.times(b, 0), REFUSED);
            due("times(0, " + b + ")", g.times(0, b), REFUSED);
        }
    }

    private static void none() {
        ShareGrid g = created(2, 3);
        due("nothing read", g.word(0), -1000000000000L);
        due("no record", g.share(0, 0, 0), -1000000000000L);
        due("its name", ShareGrid.NONE, -1000000000000L);
    }
}
