/** The boundaries that the promises 1 to 5 name: a test for each sentence that names one. */
public final class Boundaries1To5Test extends TestBase {
    private static final int[] SIZES = {MIN, MIN + 1, -1, 0, 1, 2, 3, 4, 5, 6, 7, 8, 9, MAX - 1, MAX};

    private Boundaries1To5Test() {
    }

    public static void main(String[] args) {
        Sentences.holds("Promise 1", "K clamped to 1 .. 4", Boundaries1To5Test::neededIsClamped);
        Sentences.holds("Promise 1", "N to K .. 7", Boundaries1To5Test::serversAreClamped);
        Sentences.holds("Promise 2", "step 1 the READ KEY of a WRITE KEY, 2 the VERIFY KEY of a READ KEY, "
                + "3 the VERIFY KEY of a WRITE KEY", Boundaries1To5Test::stepsFromAnyKey);
        Sentences.holds("Promise 2", "another step: 0", Boundaries1To5Test::otherSteps);
        create();
        draft();
        write();
        Due.finish();
    }

    private static void create() {
        Sentences.holds("Promise 3", "A new file for the WRITE KEY, without versions",
                Boundaries1To5Test::newFilesAreEmpty);
        Sentences.holds("Promise 3", "Something is stored under its VERIFY KEY: REFUSED",
                Boundaries1To5Test::knownKeysAreRefused);
        Sentences.holds("Promise 3", "6 files: FULL", Boundaries1To5Test::aSeventhFile);
        Sentences.holds("Promise 3", "Answers its number, from 0", Boundaries1To5Test::fileNumbers);
    }

    private static void draft() {
        Sentences.holds("Promise 4", "Sets word i (0 .. K - 1) of the DRAFT",
                Boundaries1To5Test::wordsOfTheDraft);
        Sentences.holds("Promise 4", "K words, all 0 at first", Boundaries1To5Test::theFirstDraft);
    }

    private static void write() {
        Sentences.holds("Promise 5", "NUMBER one more than the greatest written for the file",
                Boundaries1To5Test::numbersGoOn);
        Sentences.holds("Promise 5", "(also those that nobody took)",
                Boundaries1To5Test::numbersNobodyTook);
        Sentences.holds("Promise 5", "every server that is UP and not STUCK gets its record",
                Boundaries1To5Test::whoGetsARecord);
        Sentences.holds("Promise 5", "in place of the file's former one",
                Boundaries1To5Test::formerRecordsGo);
        Sentences.holds("Promise 5", "Fewer than K servers are UP: LOST",
                Boundaries1To5Test::fewerThanKUp);
        Sentences.holds("Promise 5", "the NUMBER would be above 30: FULL",
                Boundaries1To5Test::thirtyNumbers);
        Sentences.holds("Promise 5", "Fewer than K servers are UP: LOST; the NUMBER would be above 30: FULL",
                Boundaries1To5Test::lostBeforeFull);
        Sentences.holds("Promise 5", "Answers how many servers took it",
                Boundaries1To5Test::howManyTook);
    }

    private static int clamp(int x, int least, int most) {
        return x < least ? least : x > most ? most : x;
    }

    private static void neededIsClamped() {
        for (int needed : SIZES) {
            int k = clamp(needed, 1, 4);
            ShareGrid g = created(needed, 7);
            String made = "needed " + needed;
            due(made + ": K", g.count(2), k);
            due(made + ": N", g.count(3), 7);
            due(made + ": the last word", g.draft(k - 1, 1), 0);
            due(made + ": no word more", g.draft(k, 1), REFUSED);
            g.write(W);
            upJust(g, (1 << k - 1) - 1);
            due(made + ": too few servers", g.read(R), LOST);
            upJust(g, (1 << k) - 1);
            due(made + ": servers enough", g.read(R), 1);
        }
    }

    private static void serversAreClamped() {
        for (int needed : SIZES) {
            for (int servers : SIZES) {
                int n = clamp(servers, clamp(needed, 1, 4), 7);
                ShareGrid g = created(needed, servers);
                String made = "new ShareGrid(" + needed + ", " + servers + ")";
                due(made + ": N", g.count(3), n);
                due(made + ": up", g.count(1), n);
                due(made + ": a write", g.write(W), n);
                due(made + ": the last server", g.server(n - 1, true, false), 0);
                due(made + ": no server more", g.server(n, true, false), REFUSED);
                due(made + ": the last fingerprint", g.tamper(0, 0, 2 + n, 1), 0);
                due(made + ": no fingerprint more", g.tamper(0, 0, 3 + n, 1), REFUSED);
            }
        }
    }

    private static void stepsFromAnyKey() {
        ShareGrid g = new ShareGrid(1, 1);
        for (int key : new int[] {MIN, MIN + 1, -1, 0, 1, W, MAX - 1, MAX}) {
            due("key(" + key + ", 1)", g.key(key, 1), Terms.mix(key, 1));
            due("key(" + key + ", 2)", g.key(key, 2), Terms.mix(key, 2));
            due("key(" + key + ", 3)", g.key(key, 3), Terms.mix(Terms.mix(key, 1), 2));
        }
    }

    private static void otherSteps() {
        ShareGrid g = new ShareGrid(1, 1);
        for (int key : new int[] {MIN, -1, 0, 1, W, MAX}) {
            for (int step : new int[] {MIN, MIN + 1, -1, 0, 4, 5, MAX - 1, MAX}) {
                due("key(" + key + ", " + step + ")", g.key(key, step), 0);
            }
        }
    }

    private static void newFilesAreEmpty() {
        ShareGrid g = written(2, 7);
        due("create", g.create(OTHER), 1);
        due("no number", g.count(11), 0);
        due("no best number", g.best(OTHER_V), 0);
        due("no sound record", g.sound(OTHER_V), 0);
        due("nothing to read", g.read(OTHER_R), LOST);
        due("nothing to repair", g.repair(OTHER_V), LOST);
        for (int s = 0; s < 7; s++) {
            due("no record at " + s, g.share(1, s, 1), NONE);
            due("nothing to picture at " + s, g.picture(1, s), REFUSED);
            due("no picture at " + s, g.fallBack(1, s), REFUSED);
        }
    }

    /** The first, the last, and one between, with one file, some, and six. */
    private static void knownKeysAreRefused() {
        ShareGrid g = new ShareGrid(1, 1);
        for (int f = 0; f < 6; f++) {
            g.create(f);
            for (int known = 0; known <= f; known++) {
                due("create(" + known + ") with " + (f + 1), g.create(known), REFUSED);
            }
            due("files", g.count(0), f + 1);
        }
        ShareGrid other = written(1, 1);
        due("a file with a version", other.create(W), REFUSED);
        due("it has its version", other.read(R), 1);
        other.wipe(0, 0);
        due("a file without records", other.create(W), REFUSED);
        due("it has its number", other.count(10), 1);
    }

    private static void aSeventhFile() {
        ShareGrid g = new ShareGrid(1, 1);
        for (int f = 0; f < 5; f++) {
            g.create(f);
        }
        due("a sixth", g.create(5), 5);
        for (int key : new int[] {6, -1, MIN, MAX}) {
            due("a seventh, " + key, g.create(key), FULL);
            due("nothing under it", g.best(Terms.verifyKey(key)), REFUSED);
        }
        due("no file 6", g.wipe(6, 0), REFUSED);
        due("six", g.count(0), 6);
    }

    private static void fileNumbers() {
        ShareGrid g = new ShareGrid(1, 1);
        int[] keys = {MAX, 0, -1, MIN, 1, W};
        for (int f = 0; f < 6; f++) {
            due("file of " + keys[f], g.create(keys[f]), f);
            due("wipe(" + f + ")", g.wipe(f, 0), 0);
            due("wipe(" + (f + 1) + ")", g.wipe(f + 1, 0), REFUSED);
        }
    }

    private static void wordsOfTheDraft() {
        for (int k = 1; k <= 4; k++) {
            ShareGrid g = created(k, 4);
            due("K " + k + ": the first", g.draft(0, MIN), 0);
            due("K " + k + ": the last", g.draft(k - 1, MAX), 0);
            for (int i : outside(0, k - 1)) {
                due("K " + k + ": draft(" + i + ")", g.draft(i, 1), REFUSED);
            }
            g.write(W);
            g.read(R);
            due("K " + k + ": word 0", g.word(0), k == 1 ? MAX : MIN);
            due("K " + k + ": the last word", g.word(k - 1), MAX);
        }
    }

    private static void theFirstDraft() {
        for (int k = 1; k <= 4; k++) {
            ShareGrid g = created(k, 7);
            g.write(W);
            g.read(R);
            dueWords("K " + k, g, new int[k]);
            g.draft(k - 1, -1);
            g.write(W);
            g.read(R);
            int[] words = new int[k];
            words[k - 1] = -1;
            dueWords("K " + k + ", just the last set", g, words);
        }
    }

    private static void numbersGoOn() {
        ShareGrid g = created(1, 2);
        g.create(OTHER);
        for (int number = 1; number <= 3; number++) {
            g.write(W);
            due("number", g.share(0, 0, 1), number);
            due("greatest", g.count(10), number);
        }
        g.picture(0, 0);
        g.wipe(0, 1);
        g.write(W);
        due("behind a wiped one", g.share(0, 1, 1), 4);
        g.fallBack(0, 0);
        g.tamper(0, 1, 1, 4 ^ 29);
        g.write(W);
        due("behind a fall back and a tampered number", g.share(0, 0, 1), 5);
        g.write(OTHER);
        due("another file begins at 1", g.share(1, 0, 1), 1);
    }

    private static void numbersNobodyTook() {
        ShareGrid g = created(1, 2);
        g.server(0, true, true);
        g.server(1, true, true);
        for (int number = 1; number <= 29; number++) {
            due("nobody takes " + number, g.write(W), 0);
            due("it is written", g.count(10), number);
        }
        due("nothing is there", g.read(R), LOST);
        allUp(g, true);
        due("the 30th", g.write(W), 2);
        due("its number", g.share(0, 0, 1), 30);
        due("the 31st", g.write(W), FULL);
    }

    private static void whoGetsARecord() {
        for (int state = 0; state < 4; state++) {
            boolean up = (state & 1) != 0;
            boolean stuck = (state & 2) != 0;
            for (int s : new int[] {0, 3, 6}) {
                ShareGrid g = created(1, 7);
                g.server(s, up, stuck);
                boolean takes = up && !stuck;
                due("state " + state + " at " + s, g.write(W), takes ? 7 : 6);
                due("state " + state + ": record at " + s, g.share(0, s, 1), takes ? 1 : NONE);
                due("state " + state + ": record beside " + s, g.share(0, (s + 1) % 7, 1), 1);
            }
        }
    }

    private static void formerRecordsGo() {
        ShareGrid g = written(2, 3);
        for (int what = 0; what <= 5; what++) {
            g.tamper(0, 1, what, -1);
        }
        g.wipe(0, 2);
        g.write(W);
        for (int s = 0; s < 3; s++) {
            due("number at " + s, g.share(0, s, 1), 2);
        }
        due("all sound", g.sound(V), 3);
    }

    /** For each K: none, one, K - 1, K and all servers UP. */
    private static void fewerThanKUp() {
        for (int k = 1; k <= 4; k++) {
            for (int ups = 0; ups <= 7; ups++) {
                ShareGrid g = created(k, 7);
                upJust(g, (1 << ups) - 1);
                due("K " + k + ", " + ups + " up", g.write(W), ups < k ? LOST : ups);
                due("K " + k + ", " + ups + " up: numbers", g.count(10), ups < k ? 0 : 1);
            }
        }
        ShareGrid stuck = created(2, 3);
        stuck.server(0, true, true);
        stuck.server(1, true, true);
        stuck.server(2, false, false);
        due("stuck servers are up", stuck.write(W), 0);
        stuck.server(1, false, true);
        due("a stuck one that is down isn't", stuck.write(W), LOST);
    }

    private static void thirtyNumbers() {
        ShareGrid g = created(2, 3);
        g.create(OTHER);
        for (int number = 1; number <= 30; number++) {
            due("write " + number, g.write(W), 3);
            due("greatest", g.count(10), number);
        }
        for (int again = 0; again < 3; again++) {
            due("one more", g.write(W), FULL);
            due("still thirty", g.count(10), 30);
        }
        due("the best", g.best(V), 30);
        due("another file", g.write(OTHER), 3);
    }

    private static void lostBeforeFull() {
        ShareGrid g = created(2, 3);
        for (int number = 1; number <= 30; number++) {
            g.write(W);
        }
        upJust(g, 0b001);
        due("fewer than K up", g.write(W), LOST);
        upJust(g, 0b101);
        due("just K up", g.write(W), FULL);
    }

    private static void howManyTook() {
        for (int takers = 0; takers <= 7; takers++) {
            ShareGrid g = created(1, 7);
            for (int s = takers; s < 7; s++) {
                g.server(s, true, true);
            }
            due(takers + " take", g.write(W), takers);
            due(takers + " are sound", g.sound(V), takers);
        }
    }
}
