/** The boundaries that the promises 11 to 18 name: a test for each sentence that names one. */
public final class Boundaries11To18Test extends TestBase {
    private static final int[] MASKS = {0, 1, -1, MIN, MAX};

    private Boundaries11To18Test() {
    }

    public static void main(String[] args) {
        serverAndTamper();
        pictureAndWipe();
        share();
        timesAndCount();
        Due.finish();
    }

    private static void serverAndTamper() {
        Sentences.holds("Promise 11", "The server s becomes UP or not, STUCK or not",
                Boundaries11To18Test::firstAndLastServer);
        Sentences.holds("Promise 12", "Changes the record of file f on server s by xor with x",
                Boundaries11To18Test::masksOfTampering);
        Sentences.holds("Promise 12", "what 0 the share, 1 the NUMBER, 2 the SEAL",
                Boundaries11To18Test::partsOfTampering);
        Sentences.holds("Promise 12", "3 .. 2 + N the fingerprint of place what - 3",
                Boundaries11To18Test::fingerprintsOfTampering);
        Sentences.holds("Promise 12", "No record there: REFUSED", Boundaries11To18Test::nothingToTamperWith);
    }

    private static void pictureAndWipe() {
        Sentences.holds("Promise 13", "(there is none: REFUSED)", Boundaries11To18Test::nothingToPicture);
        Sentences.holds("Promise 13", "in place of the one it had", Boundaries11To18Test::aLaterPicture);
        Sentences.holds("Promise 14", "Server s falls back to the picture of file f",
                Boundaries11To18Test::picturesOfEachPlace);
        Sentences.holds("Promise 14", "it has none: REFUSED", Boundaries11To18Test::noPicture);
        Sentences.holds("Promise 15", "Server s loses its record of file f",
                Boundaries11To18Test::wipeOfEachPlace);
        Sentences.holds("Promise 15", "DONE, also if it has none", Boundaries11To18Test::nothingToWipe);
    }

    private static void share() {
        Sentences.holds("Promise 16", "The share (what 0), NUMBER (1) or SEAL (2)",
                Boundaries11To18Test::partsOfARecord);
        Sentences.holds("Promise 16", "no record", Boundaries11To18Test::noRecordToShow);
        Sentences.holds("Promise 16", "another what: NONE", Boundaries11To18Test::otherParts);
    }

    private static void timesAndCount() {
        Sentences.holds("Promise 17", "Two bytes (0 .. 255, else REFUSED) multiplied",
                Boundaries11To18Test::bytesAtTheirEnds);
        Sentences.holds("Promise 17", "else REFUSED", Boundaries11To18Test::noBytes);
        Sentences.holds("Promise 18", "Files (0)", Boundaries11To18Test::countOfFiles);
        Sentences.holds("Promise 18", "the greatest NUMBER written for file f (10 + f",
                Boundaries11To18Test::greatestNumbers);
        Sentences.holds("Promise 18", "no such file: REFUSED", Boundaries11To18Test::noSuchFile);
        Sentences.holds("Promise 18", "servers UP (1)", Boundaries11To18Test::countOfServersUp);
        Sentences.holds("Promise 18", "K (2), N (3)", Boundaries11To18Test::countOfSizes);
        Sentences.holds("Promise 18", "another what: REFUSED", Boundaries11To18Test::otherCounts);
    }

    /** A grid with two files of which each has a version on every server. */
    private static ShareGrid twoFiles(int needed, int servers) {
        ShareGrid g = written(needed, servers);
        g.create(OTHER);
        g.write(OTHER);
        return g;
    }

    private static void firstAndLastServer() {
        for (int n = 1; n <= 7; n++) {
            for (int s : new int[] {0, n - 1}) {
                ShareGrid g = created(1, n);
                due("N " + n + ": down " + s, g.server(s, false, false), 0);
                due("N " + n + ": up but " + s, g.count(1), n - 1);
                due("N " + n + ": stuck " + s, g.server(s, true, true), 0);
                due("N " + n + ": all up", g.count(1), n);
                due("N " + n + ": all but " + s + " take", g.write(W), n - 1);
                due("N " + n + ": neither " + s, g.server(s, true, false), 0);
                due("N " + n + ": all take", g.write(W), n);
                due("N " + n + ": both " + s, g.server(s, false, true), 0);
                due("N " + n + ": up but " + s + " again", g.count(1), n - 1);
            }
            ShareGrid g = created(1, n);
            for (int s : outside(0, n - 1)) {
                due("N " + n + ": server " + s, g.server(s, false, true), REFUSED);
            }
            due("N " + n + ": all take", g.write(W), n);
        }
    }

    private static void masksOfTampering() {
        for (int x : MASKS) {
            ShareGrid g = twoFiles(2, 3);
            for (int what = 0; what <= 2; what++) {
                long before = g.share(1, 2, what);
                due("what " + what + ", x " + x, g.tamper(1, 2, what, x), 0);
                due("what " + what + " with x " + x, g.share(1, 2, what), (int) before ^ x);
                due("the other file's", g.share(0, 2, 1), 1);
                due("the other server's", g.share(1, 1, 1), 1);
            }
            due("sound with x " + x, g.sound(OTHER_V), x == 0 ? 3 : 2);
            due("the other file is sound", g.sound(V), 3);
        }
    }

    private static void partsOfTampering() {
        ShareGrid g = written(1, 1);
        for (int what = 0; what <= 2; what++) {
            long[] before = {g.share(0, 0, 0), g.share(0, 0, 1), g.share(0, 0, 2)};
            g.tamper(0, 0, what, MIN);
            for (int part = 0; part <= 2; part++) {
                due("part " + part + " behind what " + what, g.share(0, 0, part),
                        part == what ? (int) before[part] ^ MIN : before[part]);
            }
        }
        due("what -1", g.tamper(0, 0, -1, 1), REFUSED);
    }

    /** For each N the first and the last fingerprint, and what is outside. */
    private static void fingerprintsOfTampering() {
        for (int n = 1; n <= 7; n++) {
            ShareGrid g = written(1, n);
            for (int what = 3; what <= 2 + n; what++) {
                due("N " + n + ": what " + what, g.tamper(0, n - 1, what, MIN), 0);
                due("N " + n + ": unsound by " + what, g.sound(V), n - 1);
                g.tamper(0, n - 1, what, MIN);
            }
            for (int what : outside(0, 2 + n)) {
                due("N " + n + ": what " + what, g.tamper(0, 0, what, 1), REFUSED);
            }
            due("N " + n + ": all are sound", g.sound(V), n);
            for (int q = 0; q < n - 1; q++) {
                ShareGrid forged = written(1, n);
                forge(forged, 1, n, n - 1, q);
                due("N " + n + ": a fingerprint that fits at " + q + " alone", forged.sound(V), n);
            }
        }
    }

    private static void nothingToTamperWith() {
        ShareGrid g = new ShareGrid(1, 2);
        due("no file", g.tamper(0, 0, 0, 1), REFUSED);
        g.create(W);
        due("no version", g.tamper(0, 0, 0, 1), REFUSED);
        g.server(1, true, true);
        g.write(W);
        for (int what = 0; what <= 4; what++) {
            due("what " + what + " of a record", g.tamper(0, 0, what, 0), 0);
            due("what " + what + " of none", g.tamper(0, 1, what, 1), REFUSED);
        }
        g.wipe(0, 0);
        due("a wiped one", g.tamper(0, 0, 0, 1), REFUSED);
        due("still none", g.share(0, 0, 0), NONE);
    }

    private static void nothingToPicture() {
        ShareGrid g = new ShareGrid(1, 2);
        due("no file", g.picture(0, 0), REFUSED);
        g.create(W);
        due("no version", g.picture(0, 0), REFUSED);
        due("no picture by it", g.fallBack(0, 0), REFUSED);
        g.server(1, true, true);
        g.write(W);
        due("a record", g.picture(0, 0), 0);
        due("none", g.picture(0, 1), REFUSED);
        due("no picture by it", g.fallBack(0, 1), REFUSED);
        g.wipe(0, 0);
        due("a wiped one", g.picture(0, 0), REFUSED);
        due("the picture that was", g.fallBack(0, 0), 0);
        due("it is there", g.share(0, 0, 1), 1);
    }

    private static void aLaterPicture() {
        ShareGrid g = written(1, 2);
        for (int number = 1; number <= 30; number++) {
            due("picture of " + number, g.picture(0, 1), 0);
            g.write(W);
            due("fall back", g.fallBack(0, 1), 0);
            due("to " + number, g.share(0, 1, 1), number);
            due("which is sound", g.sound(V), 2);
            g.repair(V);
        }
    }

    /** Every file on every server with a picture of its own. */
    private static void picturesOfEachPlace() {
        ShareGrid g = new ShareGrid(1, 7);
        for (int f = 0; f < 6; f++) {
            g.create(f);
            g.write(f);
            for (int s = 0; s < 7; s++) {
                g.tamper(f, s, 2, (int) g.share(f, s, 2) ^ f * 10 + s);
                due("picture(" + f + ", " + s + ")", g.picture(f, s), 0);
                g.wipe(f, s);
            }
        }
        for (int f = 0; f < 6; f++) {
            for (int s = 0; s < 7; s++) {
                due("fallBack(" + f + ", " + s + ")", g.fallBack(f, s), 0);
                due("it is its own", g.share(f, s, 2), f * 10 + s);
            }
            g.wipe(f, 6);
            due("the picture stays", g.fallBack(f, 6), 0);
            due("as it was", g.share(f, 6, 2), f * 10 + 6);
        }
    }

    private static void noPicture() {
        ShareGrid g = new ShareGrid(1, 3);
        due("no file", g.fallBack(0, 0), REFUSED);
        g.create(W);
        due("no record", g.fallBack(0, 0), REFUSED);
        g.write(W);
        g.create(OTHER);
        g.write(OTHER);
        g.picture(0, 1);
        for (int s = 0; s < 3; s++) {
            due("at " + s, g.fallBack(0, s), s == 1 ? 0 : REFUSED);
            due("the other file at " + s, g.fallBack(1, s), REFUSED);
        }
        due("all as before", g.sound(V), 3);
    }

    private static void wipeOfEachPlace() {
        for (int wiped = 0; wiped < 7; wiped++) {
            ShareGrid g = twoFiles(1, 7);
            due("wipe(0, " + wiped + ")", g.wipe(0, wiped), 0);
            for (int s = 0; s < 7; s++) {
                due("record at " + s, g.share(0, s, 1), s == wiped ? NONE : 1);
                due("the other file's at " + s, g.share(1, s, 1), 1);
            }
            due("six are left", g.sound(V), 6);
        }
    }

    private static void nothingToWipe() {
        ShareGrid g = created(1, 2);
        due("no version", g.wipe(0, 0), 0);
        g.write(W);
        due("a record", g.wipe(0, 1), 0);
        due("none", g.wipe(0, 1), 0);
        due("one is left", g.sound(V), 1);
        due("the number stands", g.count(10), 1);
        due("repair", g.repair(V), 1);
    }

    private static void partsOfARecord() {
        ShareGrid g = new ShareGrid(4, 7);
        for (int f = 0; f < 6; f++) {
            g.create(f);
            g.write(f);
        }
        int[] cipher = Terms.cipher(Terms.readKey(5), 1, new int[4]);
        due("the last file's share on the last server", g.share(5, 6, 0), Terms.share(cipher, 6));
        due("its number", g.share(5, 6, 1), 1);
        int root = Terms.root(Terms.fingerprints(cipher, 7), 1);
        due("its seal", g.share(5, 6, 2), Terms.seal(root, 5));
        g.tamper(5, 6, 1, 1 ^ MIN);
        due("the least number", g.share(5, 6, 1), MIN);
        g.tamper(5, 6, 0, (int) g.share(5, 6, 0) ^ MAX);
        due("the greatest share", g.share(5, 6, 0), MAX);
    }

    private static void noRecordToShow() {
        ShareGrid empty = new ShareGrid(1, 2);
        due("no file", empty.share(0, 0, 0), NONE);
        ShareGrid g = created(1, 2);
        due("no version", g.share(0, 0, 0), NONE);
        g.write(W);
        due("a record", g.share(0, 1, 1), 1);
        g.wipe(0, 1);
        for (int what = 0; what <= 2; what++) {
            due("what " + what + " of a wiped one", g.share(0, 1, what), NONE);
        }
        for (int f : outside(0, 0)) {
            due("file " + f, g.share(f, 0, 1), NONE);
        }
        for (int s : outside(0, 1)) {
            due("server " + s, g.share(0, s, 1), NONE);
        }
    }

    private static void otherParts() {
        ShareGrid g = written(1, 7);
        for (int what : outside(0, 2)) {
            due("what " + what, g.share(0, 0, what), NONE);
        }
        due("no fingerprint is shown", g.share(0, 6, 9), NONE);
        g.wipe(0, 0);
        due("another what of no record", g.share(0, 0, 3), NONE);
    }

    private static void bytesAtTheirEnds() {
        ShareGrid g = new ShareGrid(1, 1);
        int[][] products = {
            {0, 0, 0}, {0, 255, 0}, {255, 0, 0}, {1, 255, 255}, {255, 1, 255}, {255, 255, 226},
            {2, 127, 254}, {2, 128, 29}, {128, 2, 29}, {128, 128, 19}, {2, 142, 1}
        };
        for (int[] row : products) {
            due("times(" + row[0] + ", " + row[1] + ")", g.times(row[0], row[1]), row[2]);
        }
    }

    private static void noBytes() {
        ShareGrid g = new ShareGrid(1, 1);
        for (int wrong : outside(0, 255)) {
            for (int other : new int[] {0, 1, 255, wrong}) {
                due("times(" + wrong + ", " + other + ")", g.times(wrong, other), REFUSED);
                due("times(" + other + ", " + wrong + ")", g.times(other, wrong), REFUSED);
            }
        }
    }

    private static void countOfFiles() {
        ShareGrid g = new ShareGrid(1, 1);
        due("none", g.count(0), 0);
        for (int f = 0; f < 6; f++) {
            g.create(f);
            due("files", g.count(0), f + 1);
        }
        g.create(6);
        due("six", g.count(0), 6);
    }

    private static void greatestNumbers() {
        ShareGrid g = new ShareGrid(1, 2);
        for (int f = 0; f < 6; f++) {
            g.create(f);
            due("no version of " + f, g.count(10 + f), 0);
        }
        for (int f = 0; f < 6; f++) {
            // 1, 7, 13, 19, 25 and, as more is not written, 30
            for (int turn = 0; turn < 1 + f * 6; turn++) {
                g.write(f);
            }
        }
        for (int f = 0; f < 6; f++) {
            due("versions of " + f, g.count(10 + f), Math.min(30, 1 + f * 6));
        }
        g.wipe(0, 0);
        g.wipe(0, 1);
        due("without records", g.count(10), 1);
    }

    private static void noSuchFile() {
        ShareGrid g = new ShareGrid(1, 1);
        due("no file 0", g.count(10), REFUSED);
        for (int f = 0; f < 6; f++) {
            g.create(f);
            due("file " + f, g.count(10 + f), 0);
            due("no file " + (f + 1), g.count(11 + f), REFUSED);
        }
        due("before file 0", g.count(9), REFUSED);
    }

    private static void countOfServersUp() {
        for (int n = 1; n <= 7; n++) {
            ShareGrid g = new ShareGrid(1, n);
            for (int ups = 0; ups <= n; ups++) {
                upJust(g, (1 << ups) - 1);
                due("N " + n + ": " + ups + " up", g.count(1), ups);
            }
            g.server(n - 1, true, true);
            due("N " + n + ": a stuck one is up", g.count(1), n);
        }
    }

    private static void countOfSizes() {
        for (int k = 1; k <= 4; k++) {
            for (int n = k; n <= 7; n++) {
                ShareGrid g = new ShareGrid(k, n);
                due("K", g.count(2), k);
                due("N", g.count(3), n);
            }
        }
    }

    private static void otherCounts() {
        ShareGrid g = new ShareGrid(1, 1);
        for (int f = 0; f < 6; f++) {
            g.create(f);
        }
        for (int what : new int[] {
            -1, -2, -3, -10, -15, 4, 5, 8, 9, 16, 17, MIN, MIN + 9, MIN + 10, MIN + 15, MAX - 1, MAX
        }) {
            due("count(" + what + ")", g.count(what), REFUSED);
        }
    }
}
