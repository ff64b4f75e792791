/** One method for each promise of the document: ordinary inputs, the edges it names, wrong inputs. */
public final class PromisesTest extends TestBase {
    private PromisesTest() {
    }

    public static void main(String[] args) {
        promise1NewObject();
        promise2Key();
        promise3Create();
        promise4Draft();
        promise5Write();
        promise5WriteRefused();
        promise5RecordsAreAsTheTermsSay();
        promise6Read();
        promise6ReadsTheBestVersion();
        promise6DecodesTheLeastPlaces();
        promise7Word();
        promise8Sound();
        promise8SoundLooksAtEveryPart();
        promise8NumbersNotWritten();
        promise9Best();
        promise10Repair();
        promise10RepairCopiesTheLeastPlace();
        promise11Server();
        promise12Tamper();
        promise13And14PictureAndFallBack();
        promise15Wipe();
        promise16Share();
        promise17Times();
        promise18Count();
        Due.finish();
    }

    private static void clamps(int needed, int servers, int k, int n) {
        ShareGrid g = new ShareGrid(needed, servers);
        String made = "new ShareGrid(" + needed + ", " + servers + ")";
        due(made + ": K", g.count(2), k);
        due(made + ": N", g.count(3), n);
        due(made + ": servers up", g.count(1), n);
        due(made + ": files", g.count(0), 0);
        due(made + ": the last word", g.draft(k - 1, 1), 0);
        due(made + ": no word more", g.draft(k, 1), REFUSED);
        due(made + ": the last server", g.server(n - 1, true, false), 0);
        due(made + ": no server more", g.server(n, true, false), REFUSED);
    }

    private static void promise1NewObject() {
        clamps(2, 4, 2, 4);
        clamps(1, 1, 1, 1);
        clamps(0, 0, 1, 1);
        clamps(4, 7, 4, 7);
        clamps(5, 8, 4, 7);
        clamps(3, 2, 3, 3);
        clamps(4, MIN, 4, 4);
        clamps(MIN, MAX, 1, 7);
        clamps(MAX, MIN, 4, 4);
        ShareGrid g = new ShareGrid(2, 3);
        due("1: nothing is read", g.word(0), NONE);
        due("1: no file", g.count(10), REFUSED);
        due("1: nothing under 0", g.best(0), REFUSED);
        due("1: no record", g.share(0, 0, 0), NONE);
        g.create(W);
        due("1: no server is stuck", g.write(W), 3);
    }

    private static void promise2Key() {
        ShareGrid g = new ShareGrid(2, 4);
        due("2: key(5, 1)", g.key(5, 1), 213031190);
        due("2: key(5, 3)", g.key(5, 3), -1144341120);
        due("2: key(213031190, 2)", g.key(213031190, 2), -1144341120);
        for (int step : new int[] {0, 4, -1, 5, MIN, MAX}) {
            due("2: key(5, " + step + ")", g.key(5, step), 0);
        }
        for (int key : new int[] {0, 1, -1, MIN, MAX, 123456789, -40503}) {
            due("2: read key of " + key, g.key(key, 1), Terms.mix(key, 1));
            due("2: verify key of " + key, g.key(key, 2), Terms.mix(key, 2));
            due("2: both steps from " + key, g.key(key, 3), Terms.mix(Terms.mix(key, 1), 2));
        }
    }

    private static void promise3Create() {
        ShareGrid g = new ShareGrid(2, 3);
        for (int f = 0; f < 6; f++) {
            due("3: file " + f, g.create(100 + f), f);
            due("3: the same again", g.create(100 + f), REFUSED);
            due("3: files", g.count(0), f + 1);
            due("3: without versions", g.count(10 + f), 0);
            due("3: no best number", g.best(Terms.verifyKey(100 + f)), 0);
            due("3: no record", g.share(f, 0, 1), NONE);
        }
        due("3: a seventh", g.create(106), FULL);
        due("3: a known one among six", g.create(105), REFUSED);
        due("3: still six", g.count(0), 6);
        due("3: the seventh is not there", g.best(Terms.verifyKey(106)), REFUSED);
        ShareGrid other = written(2, 3);
        due("3: a refused one keeps the file", other.create(W), REFUSED);
        due("3: its version stands", other.best(V), 1);
        due("3: a read key is a write key too", other.create(R), 1);
    }

    private static void promise4Draft() {
        ShareGrid g = new ShareGrid(3, 4);
        g.create(W);
        g.write(W);
        g.read(R);
        for (int i = 0; i < 3; i++) {
            due("4: all 0 at first", g.word(i), 0);
        }
        due("4: draft(0, MIN)", g.draft(0, MIN), 0);
        due("4: draft(2, 8)", g.draft(2, 8), 0);
        due("4: draft(2, 9)", g.draft(2, 9), 0);
        for (int i : new int[] {-1, 3, 4, MIN, MAX}) {
            due("4: draft(" + i + ", 1)", g.draft(i, 1), REFUSED);
        }
        due("4: a draft alone is not read", g.word(0), 0);
        for (int turn = 2; turn < 4; turn++) {
            g.write(W);
            due("4: read after draft", g.read(R), turn);
            due("4: word 0", g.word(0), MIN);
            due("4: word 1", g.word(1), 0);
            due("4: word 2", g.word(2), 9);
        }
        g.create(OTHER);
        g.write(OTHER);
        g.read(Terms.readKey(OTHER));
        due("4: one draft for all files", g.word(2), 9);
    }

    private static void promise5Write() {
        ShareGrid g = new ShareGrid(2, 5);
        g.create(W);
        due("5: all took it", g.write(W), 5);
        g.server(1, false, false);
        g.server(2, true, true);
        g.server(3, false, true);
        due("5: a server down, one stuck, one both", g.write(W), 2);
        int[] numbers = {2, 1, 1, 1, 2};
        for (int s = 0; s < 5; s++) {
            due("5: number at " + s, g.share(0, s, 1), numbers[s]);
        }
        g.server(0, true, true);
        g.server(4, false, false);
        due("5: just K up, all stuck", g.write(W), 0);
        due("5: nobody took it, yet it counts", g.count(10), 3);
        allUp(g, true);
        due("5: after that nobody took", g.write(W), 5);
        due("5: the number is one more", g.share(0, 3, 1), 4);
        due("5: another file", g.create(OTHER), 1);
        due("5: its first version", g.write(OTHER), 5);
        due("5: its number", g.share(1, 0, 1), 1);
        due("5: the first file stands", g.best(V), 4);
    }

    private static void promise5WriteRefused() {
        ShareGrid g = new ShareGrid(2, 3);
        due("5: no file", g.write(W), REFUSED);
        g.create(W);
        due("5: a read key", g.write(R), REFUSED);
        due("5: a verify key", g.write(V), REFUSED);
        g.server(0, false, false);
        g.server(1, false, false);
        due("5: fewer than K up", g.write(W), LOST);
        due("5: no file, before fewer than K", g.write(OTHER), REFUSED);
        due("5: nothing is written", g.count(10), 0);
        due("5: no record", g.share(0, 2, 1), NONE);
        g.server(1, true, false);
        for (int number = 1; number <= 30; number++) {
            due("5: write " + number, g.write(W), 2);
        }
        due("5: the 31st", g.write(W), FULL);
        due("5: thirty", g.count(10), 30);
        due("5: the record stands", g.share(0, 1, 1), 30);
        due("5: the best stands", g.best(V), 30);
        g.server(1, false, false);
        due("5: lost before full", g.write(W), LOST);
        due("5: another file isn't full", g.create(OTHER), 1);
        g.server(1, true, false);
        due("5: its first", g.write(OTHER), 2);
    }

    private static void promise5RecordsAreAsTheTermsSay() {
        for (int k = 1; k <= 4; k++) {
            for (int n = k; n <= 7; n++) {
                ShareGrid g = written(k, n);
                g.draft(0, 0x80402010);
                g.write(W);
                int[] words = words(k);
                words[0] = 0x80402010;
                int[] cipher = Terms.cipher(R, 2, words);
                int root = Terms.root(Terms.fingerprints(cipher, n), 2);
                for (int s = 0; s < n; s++) {
                    String where = "5: K " + k + ", N " + n + ", place " + s;
                    due(where + ": share", g.share(0, s, 0), Terms.share(cipher, s));
                    due(where + ": number", g.share(0, s, 1), 2);
                    due(where + ": seal", g.share(0, s, 2), Terms.seal(root, W));
                }
            }
        }
    }

    private static void promise6Read() {
        for (int k = 1; k <= 4; k++) {
            for (int set = 0; set < 128; set++) {
                ShareGrid g = written(k, 7);
                for (int s = 0; s < 7; s++) {
                    g.server(s, (set >> s & 1) != 0, false);
                }
                boolean enough = Integer.bitCount(set) >= k;
                due("6: K " + k + ", up " + set, g.read(R), enough ? 1 : LOST);
                for (int i = 0; enough && i < k; i++) {
                    due("6: K " + k + ", up " + set + ", word " + i, g.word(i), 11 * (i + 1));
                }
            }
        }
        ShareGrid g = new ShareGrid(2, 3);
        due("6: nothing stored", g.read(R), REFUSED);
        g.create(W);
        due("6: no version", g.read(R), LOST);
        due("6: still nothing read", g.word(0), NONE);
        g.write(W);
        due("6: a write key", g.read(W), REFUSED);
        due("6: a verify key", g.read(V), REFUSED);
        due("6: a read key", g.read(R), 1);
    }

    private static void promise6ReadsTheBestVersion() {
        ShareGrid g = written(2, 5);
        g.server(3, true, true);
        g.server(4, true, true);
        g.draft(0, 99);
        g.write(W);
        due("6: the later", g.read(R), 2);
        due("6: its word", g.word(0), 99);
        g.wipe(0, 0);
        due("6: two left of the later", g.read(R), 2);
        g.tamper(0, 1, 2, 8);
        due("6: one left of the later, two of the former", g.read(R), 1);
        due("6: the former's word", g.word(0), 11);
        g.server(4, false, false);
        due("6: one of each", g.read(R), LOST);
        due("6: what was read stays", g.word(0), 11);
    }

    private static void promise6DecodesTheLeastPlaces() {
        ShareGrid g = written(2, 4);
        forge(g, 2, 4, 2, 3);
        due("6: the forged record is sound", g.sound(V), 4);
        g.read(R);
        due("6: places 0 and 1", g.word(0), 11);
        g.server(0, false, false);
        due("6: places 1 and 2", g.read(R), 1);
        int[] shares = {(int) g.share(0, 1, 0), (int) g.share(0, 2, 0)};
        int[] decoded = Terms.cipher(R, 1, Terms.decode(new int[] {1, 2}, shares));
        Due.due("6: the forged share tells", decoded[0] != 11);
        due("6: word 0 with it", g.word(0), decoded[0]);
        due("6: word 1 with it", g.word(1), decoded[1]);
    }

    private static void promise7Word() {
        ShareGrid g = new ShareGrid(2, 3);
        due("7: none at first", g.word(0), NONE);
        g.create(W);
        g.draft(0, -5);
        g.draft(1, MAX);
        g.write(W);
        due("7: none before a read", g.word(0), NONE);
        g.read(R);
        due("7: word 0", g.word(0), -5);
        due("7: word 1", g.word(1), MAX);
        for (int i : new int[] {-1, 2, 3, MIN, MAX}) {
            due("7: word " + i, g.word(i), NONE);
        }
        g.draft(0, 6);
        g.write(W);
        due("7: a write is not read", g.word(0), -5);
        g.read(W);
        due("7: after a refused read", g.word(0), -5);
        allUp(g, false);
        g.read(R);
        due("7: after a lost read", g.word(0), -5);
        allUp(g, true);
        g.create(OTHER);
        g.read(Terms.readKey(OTHER));
        due("7: after a lost read of another file", g.word(0), -5);
        g.read(R);
        due("7: after a good read", g.word(0), 6);
        g.repair(V);
        g.wipe(0, 0);
        due("7: what was read stays", g.word(0), 6);
    }

    private static void promise8Sound() {
        ShareGrid g = new ShareGrid(3, 5);
        due("8: nothing stored", g.sound(V), REFUSED);
        g.create(W);
        due("8: no record", g.sound(V), 0);
        due("8: a write key", g.sound(W), REFUSED);
        due("8: a read key", g.sound(R), REFUSED);
        g.write(W);
        due("8: all", g.sound(V), 5);
        g.server(0, true, true);
        g.server(1, false, false);
        due("8: one is not seen", g.sound(V), 4);
        g.write(W);
        due("8: of any number", g.sound(V), 4);
        g.server(1, true, false);
        due("8: the former number is sound", g.sound(V), 5);
        g.wipe(0, 0);
        due("8: a wiped one", g.sound(V), 4);
        g.create(OTHER);
        due("8: another file has none", g.sound(Terms.verifyKey(OTHER)), 0);
    }

    private static void promise8SoundLooksAtEveryPart() {
        ShareGrid g = written(2, 4);
        for (int what = 0; what < 7; what++) {
            for (int x : new int[] {1, MIN, -1}) {
                g.tamper(0, 1, what, x);
                due("8: tampered " + what + " with " + x, g.sound(V), 3);
                g.tamper(0, 1, what, x);
                due("8: tampered " + what + " back", g.sound(V), 4);
            }
        }
        g.write(W);
        for (int number : new int[] {0, 1, 3, 30, 31, 32, -1, -2, 1000, MIN, MAX}) {
            g.tamper(0, 1, 1, 2 ^ number);
            due("8: number " + number, g.sound(V), 3);
            due("8: best with number " + number, g.best(V), 2);
            g.tamper(0, 1, 1, 2 ^ number);
        }
        int share = (int) g.share(0, 1, 0);
        g.tamper(0, 1, 0, 9);
        g.tamper(0, 1, 4, Terms.mix(share, 101) ^ Terms.mix(share ^ 9, 101));
        due("8: share and its fingerprint", g.sound(V), 3);
        g.write(W);
        due("8: a new record", g.sound(V), 4);
        ShareGrid forged = written(3, 5);
        forge(forged, 3, 5, 4, 0);
        due("8: sound by the terms' own words", forged.sound(V), 5);
    }

    /** No ROOT and SEAL make a record SOUND whose NUMBER was not written, not even 0 and 0. */
    private static void promise8NumbersNotWritten() {
        for (int number : new int[] {0, 2, 3, 30, 31, -1, MIN, MAX}) {
            ShareGrid g = written(1, 3);
            int[] prints = Terms.fingerprints(Terms.cipher(R, 1, words(1)), 3);
            g.tamper(0, 0, 1, 1 ^ number);
            g.tamper(0, 0, 2, (int) g.share(0, 0, 2));
            g.tamper(0, 0, 5, prints[2] ^ Terms.fingerprintForRoot(prints, number, 2, 0));
            due("8: number " + number + " was not written", g.sound(V), 2);
            due("8: it is not the best", g.best(V), 1);
            due("8: it is repaired", g.repair(V), 1);
        }
    }

    private static void promise9Best() {
        ShareGrid g = new ShareGrid(2, 5);
        due("9: nothing stored", g.best(V), REFUSED);
        g.create(W);
        due("9: no version", g.best(V), 0);
        due("9: a write key", g.best(W), REFUSED);
        due("9: a read key", g.best(R), REFUSED);
        g.write(W);
        g.server(0, true, true);
        g.server(1, true, true);
        g.write(W);
        g.server(2, true, true);
        g.server(3, true, true);
        due("9: one took the third", g.write(W), 1);
        due("9: two of 2, two of 1, one of 3", g.best(V), 2);
        g.server(3, false, false);
        due("9: one of 2, two of 1, one of 3", g.best(V), 1);
        g.server(0, false, false);
        due("9: one of each", g.best(V), 0);
        allUp(g, true);
        due("9: what was down is seen again", g.best(V), 2);
        g.tamper(0, 2, 0, 1);
        due("9: sound ones alone", g.best(V), 1);
    }

    private static void promise10Repair() {
        ShareGrid g = new ShareGrid(2, 6);
        due("10: nothing stored", g.repair(V), REFUSED);
        g.create(W);
        due("10: no version", g.repair(V), LOST);
        due("10: a write key", g.repair(W), REFUSED);
        due("10: a read key", g.repair(R), REFUSED);
        g.draft(1, 4);
        g.write(W);
        g.server(0, false, false);
        g.write(W);
        due("10: nothing to do where it's up", g.repair(V), 0);
        due("10: the one that's down keeps its own", g.share(0, 0, 1), 1);
        allUp(g, true);
        long[] shares = new long[6];
        for (int s = 1; s < 6; s++) {
            shares[s] = g.share(0, s, 0);
        }
        g.wipe(0, 1);
        g.tamper(0, 2, 0, 77);
        g.tamper(0, 3, 1, 3);
        g.server(2, true, true);
        g.server(3, false, false);
        due("10: two are sound", g.sound(V), 3);
        due("10: a former number, a wiped one", g.repair(V), 2);
        due("10: place 0", g.share(0, 0, 1), 2);
        due("10: place 1", g.share(0, 1, 0), shares[1]);
        due("10: the stuck one", g.share(0, 2, 0), shares[2] ^ 77);
        due("10: the one that's down", g.share(0, 3, 1), 1);
        allUp(g, true);
        due("10: the others", g.repair(V), 2);
        due("10: all sound", g.sound(V), 6);
        due("10: all of one number", g.best(V), 2);
        due("10: nothing more", g.repair(V), 0);
        due("10: no new number", g.count(10), 2);
        for (int s = 1; s < 6; s++) {
            due("10: share " + s, g.share(0, s, 0), shares[s]);
            g.wipe(0, s);
        }
        due("10: too few", g.repair(V), LOST);
        due("10: a lost one changes nothing", g.share(0, 1, 0), NONE);
        due("10: nothing is read by it", g.word(0), NONE);
    }

    /** The BEST version may be a former one: then the later records are replaced. */
    private static void promise10RepairCopiesTheLeastPlace() {
        ShareGrid g = written(2, 4);
        g.server(0, true, true);
        g.server(1, true, true);
        g.server(2, true, true);
        g.write(W);
        due("10: the former is best", g.best(V), 1);
        due("10: the later record goes", g.repair(V), 1);
        due("10: it has the former number", g.share(0, 3, 1), 1);
        allUp(g, true);
        g.wipe(0, 0);
        forge(g, 2, 4, 1, 3);
        g.wipe(0, 3);
        int[] places = {1, 2};
        int[] shares = {(int) g.share(0, 1, 0), (int) g.share(0, 2, 0)};
        int[] cipher = Terms.decode(places, shares);
        due("10: two are given", g.repair(V), 2);
        due("10: decoded with the forged share, 0", g.share(0, 0, 0), Terms.share(cipher, 0));
        due("10: decoded with the forged share, 3", g.share(0, 3, 0), Terms.share(cipher, 3));
        due("10: the fingerprints of place 1 do not fit there", g.sound(V), 2);
        due("10: so they are given again", g.repair(V), 2);
        g.tamper(0, 0, 0, Terms.share(cipher, 0) ^ share(0));
        due("10: the right share is sound at 0", g.sound(V), 3);
        g.tamper(0, 3, 0, Terms.share(cipher, 3) ^ share(3));
        due("10: but not at 3, with the fingerprints of place 1", g.sound(V), 3);
    }

    /** The share at place s of what written(2, 4) wrote. */
    private static int share(int s) {
        return Terms.share(Terms.cipher(R, 1, words(2)), s);
    }

    private static void promise11Server() {
        ShareGrid g = written(2, 4);
        for (int s : new int[] {-1, 4, 5, MIN, MAX}) {
            due("11: server " + s, g.server(s, false, true), REFUSED);
        }
        due("11: all up", g.count(1), 4);
        due("11: down", g.server(0, false, false), 0);
        due("11: down again", g.server(0, false, false), 0);
        due("11: three up", g.count(1), 3);
        due("11: it keeps its record", g.share(0, 0, 1), 1);
        due("11: stuck and up", g.server(1, true, true), 0);
        due("11: a stuck one is up", g.count(1), 3);
        due("11: a stuck one is seen", g.sound(V), 3);
        due("11: two take", g.write(W), 2);
        due("11: no longer stuck", g.server(1, true, false), 0);
        due("11: three take", g.write(W), 3);
        due("11: down and stuck", g.server(1, false, true), 0);
        due("11: up and stuck", g.server(1, true, true), 0);
        due("11: up", g.server(0, true, false), 0);
        due("11: it has its old record", g.share(0, 0, 1), 1);
        due("11: four up", g.count(1), 4);
    }

    private static void promise12Tamper() {
        ShareGrid g = written(2, 4);
        g.create(OTHER);
        long[] before = {g.share(0, 1, 0), g.share(0, 1, 1), g.share(0, 1, 2)};
        for (int[] wrong : new int[][] {
            {-1, 1, 0}, {2, 1, 0}, {6, 1, 0}, {MIN, 1, 0}, {MAX, 1, 0}, {0, -1, 0}, {0, 4, 0}, {0, MAX, 0},
            {0, MIN, 0}, {0, 1, -1}, {0, 1, 7}, {0, 1, MIN}, {0, 1, MAX}, {1, 1, 0}, {1, 1, 3}
        }) {
            due("12: tamper " + java.util.Arrays.toString(wrong), g.tamper(wrong[0], wrong[1], wrong[2], 1),
                    REFUSED);
        }
        due("12: nothing is changed", g.sound(V), 4);
        g.server(1, false, true);
        for (int what = 0; what < 3; what++) {
            due("12: tamper " + what, g.tamper(0, 1, what, -8), 0);
            for (int part = 0; part < 3; part++) {
                due("12: part " + part + " after " + what, g.share(0, 1, part),
                        part <= what ? before[part] ^ -8 : before[part]);
            }
        }
        for (int what = 0; what < 3; what++) {
            g.tamper(0, 1, what, -8);
        }
        g.server(1, true, false);
        due("12: all back", g.sound(V), 4);
        for (int what = 3; what < 7; what++) {
            due("12: fingerprint " + (what - 3), g.tamper(0, 1, what, 6), 0);
            due("12: unsound", g.sound(V), 3);
            due("12: the share stands", g.share(0, 1, 0), before[0]);
            g.tamper(0, 1, what, 6);
        }
        due("12: xor with 0", g.tamper(0, 1, 0, 0), 0);
        due("12: changes nothing", g.sound(V), 4);
        g.wipe(0, 1);
        due("12: no record", g.tamper(0, 1, 0, 1), REFUSED);
        due("12: nor after it", g.share(0, 1, 0), NONE);
    }

    private static void promise13And14PictureAndFallBack() {
        ShareGrid g = new ShareGrid(2, 3);
        due("13: no file", g.picture(0, 0), REFUSED);
        due("14: no file", g.fallBack(0, 0), REFUSED);
        g.create(W);
        g.create(OTHER);
        due("13: no record", g.picture(0, 0), REFUSED);
        due("14: no picture", g.fallBack(0, 0), REFUSED);
        g.write(W);
        due("14: a record, no picture", g.fallBack(0, 0), REFUSED);
        for (int wrong : new int[] {-1, 6, 7, MIN, MAX}) {
            due("13: file " + wrong, g.picture(wrong, 0), REFUSED);
            due("13: server " + wrong, g.picture(0, wrong), REFUSED);
            due("14: file " + wrong, g.fallBack(wrong, 0), REFUSED);
            due("14: server " + wrong, g.fallBack(0, wrong), REFUSED);
        }
        due("13: server N", g.picture(0, 3), REFUSED);
        due("14: server N", g.fallBack(0, 3), REFUSED);
        due("13: picture", g.picture(0, 0), 0);
        g.write(W);
        due("13: it leaves the record alone", g.share(0, 0, 1), 2);
        due("14: another server has none", g.fallBack(0, 1), REFUSED);
        due("14: another file has none", g.fallBack(1, 0), REFUSED);
        due("14: back", g.fallBack(0, 0), 0);
        due("14: to the former number", g.share(0, 0, 1), 1);
        due("14: sound as it was", g.sound(V), 3);
        for (int what = 0; what < 6; what++) {
            g.tamper(0, 0, what, 1);
        }
        due("14: the picture is kept, untouched", g.fallBack(0, 0), 0);
        due("14: sound again", g.sound(V), 3);
        g.wipe(0, 0);
        due("13: nothing to picture", g.picture(0, 0), REFUSED);
        due("14: a wiped server falls back", g.fallBack(0, 0), 0);
        due("14: it has its record", g.share(0, 0, 1), 1);
        g.repair(V);
        due("13: a new picture", g.picture(0, 0), 0);
        g.tamper(0, 0, 0, 5);
        g.fallBack(0, 0);
        due("13: in place of the former", g.share(0, 0, 1), 2);
        g.tamper(0, 1, 2, 5);
        g.server(1, false, true);
        due("13: of a tampered record, down and stuck", g.picture(0, 1), 0);
        g.wipe(0, 1);
        due("14: down and stuck", g.fallBack(0, 1), 0);
        g.server(1, true, false);
        due("14: tampered as it was", g.sound(V), 2);
        due("14: no number comes back", g.count(10), 2);
    }

    private static void promise15Wipe() {
        ShareGrid g = new ShareGrid(2, 3);
        due("15: no file", g.wipe(0, 0), REFUSED);
        g.create(W);
        due("15: no record", g.wipe(0, 0), 0);
        g.write(W);
        g.create(OTHER);
        g.write(OTHER);
        for (int wrong : new int[] {-1, 3, 6, MIN, MAX}) {
            due("15: file " + wrong, g.wipe(wrong, 0), REFUSED);
            due("15: server " + wrong, g.wipe(0, wrong), REFUSED);
        }
        due("15: file 2", g.wipe(2, 0), REFUSED);
        due("15: all there", g.sound(V), 3);
        g.server(1, false, true);
        due("15: wipe", g.wipe(0, 1), 0);
        due("15: wipe again", g.wipe(0, 1), 0);
        g.server(1, true, false);
        for (int what = 0; what < 3; what++) {
            due("15: no part " + what, g.share(0, 1, what), NONE);
        }
        due("15: two are left", g.sound(V), 2);
        due("15: the other file has all", g.sound(Terms.verifyKey(OTHER)), 3);
        due("15: the number stands", g.count(10), 1);
    }

    private static void promise16Share() {
        ShareGrid g = new ShareGrid(2, 4);
        due("16: no file", g.share(0, 0, 0), NONE);
        g.create(W);
        due("16: no record", g.share(0, 0, 0), NONE);
        g.draft(0, 111);
        g.draft(1, -222);
        g.write(W);
        due("16: share 0", g.share(0, 0, 0), -456470780);
        due("16: share 3", g.share(0, 3, 0), -1796485548);
        due("16: number", g.share(0, 3, 1), 1);
        due("16: seal", g.share(0, 1, 2), -996769218);
        for (int wrong : new int[] {-1, 6, 7, MIN, MAX}) {
            due("16: file " + wrong, g.share(wrong, 0, 0), NONE);
            due("16: server " + wrong, g.share(0, wrong, 0), NONE);
            due("16: what " + wrong, g.share(0, 0, wrong), NONE);
        }
        due("16: a file not yet made", g.share(1, 0, 0), NONE);
        due("16: server N", g.share(0, 4, 0), NONE);
        due("16: no fingerprint", g.share(0, 0, 3), NONE);
        g.server(0, false, true);
        due("16: of a server that's down", g.share(0, 0, 0), -456470780);
    }

    private static void promise17Times() {
        ShareGrid g = new ShareGrid(1, 1);
        due("17: times(2, 128)", g.times(2, 128), 29);
        due("17: times(255, 255)", g.times(255, 255), 226);
        for (int wrong : new int[] {-1, 256, 257, MIN, MAX}) {
            due("17: times(" + wrong + ", 1)", g.times(wrong, 1), REFUSED);
            due("17: times(1, " + wrong + ")", g.times(1, wrong), REFUSED);
            due("17: times(0, " + wrong + ")", g.times(0, wrong), REFUSED);
        }
        for (int a = 0; a < 256; a++) {
            ShareGrid row = new ShareGrid(1, 1);
            for (int b = 0; b < 256; b++) {
                due("17: times(" + a + ", " + b + ")", row.times(a, b), Terms.times(a, b));
            }
        }
    }

    private static void promise18Count() {
        ShareGrid g = new ShareGrid(3, 6);
        for (int what : new int[] {-1, 4, 5, 9, 10, 15, 16, 17, MIN, MIN + 9, MIN + 10, MAX}) {
            due("18: count(" + what + ")", g.count(what), REFUSED);
        }
        due("18: files", g.count(0), 0);
        due("18: K", g.count(2), 3);
        due("18: N", g.count(3), 6);
        g.create(W);
        g.create(OTHER);
        g.write(OTHER);
        g.write(OTHER);
        g.fallBack(1, 0);
        g.wipe(1, 0);
        due("18: files", g.count(0), 2);
        due("18: numbers of file 0", g.count(10), 0);
        due("18: numbers of file 1", g.count(11), 2);
        due("18: no file 2", g.count(12), REFUSED);
        g.server(5, false, false);
        g.server(4, true, true);
        due("18: up", g.count(1), 5);
        allUp(g, false);
        due("18: none up", g.count(1), 0);
    }
}
