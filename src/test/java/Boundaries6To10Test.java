/** The boundaries that the promises 6 to 10 name: a test for each sentence that names one. */
public final class Boundaries6To10Test extends TestBase {
    private Boundaries6To10Test() {
    }

    public static void main(String[] args) {
        Sentences.holds("Promise 6", "DECODES the SEEN and SOUND records of the BEST NUMBER at the K least "
                + "places and deciphers", Boundaries6To10Test::theLeastPlacesAreRead);
        Sentences.holds("Promise 6", "The BEST NUMBER is 0: LOST", Boundaries6To10Test::nothingToRead);
        Sentences.holds("Promise 6", "Answers the NUMBER", Boundaries6To10Test::numbersThatAreRead);
        word();
        soundAndBest();
        repair();
        Due.finish();
    }

    private static void word() {
        Sentences.holds("Promise 7", "Word i (0 .. K - 1)", Boundaries6To10Test::wordsThatAreRead);
        Sentences.holds("Promise 7", "READ by the latest read that wasn't refused",
                Boundaries6To10Test::theLatestReadCounts);
        Sentences.holds("Promise 7", "NONE if there was none", Boundaries6To10Test::wordsBeforeAnyRead);
        Sentences.holds("Promise 7", "or i is out of range", Boundaries6To10Test::wordsOutOfRange);
    }

    private static void soundAndBest() {
        Sentences.holds("Promise 8", "How many records of the file are SEEN and SOUND",
                Boundaries6To10Test::soundFromNoneToAll);
        Sentences.holds("Promise 8", "of any NUMBER", Boundaries6To10Test::soundOfAnyNumber);
        Sentences.holds("Promise 9", "The BEST NUMBER", Boundaries6To10Test::bestFrom0To30);
    }

    private static void repair() {
        Sentences.holds("Promise 10", "Every server that is UP and not STUCK",
                Boundaries6To10Test::whoIsRepaired);
        Sentences.holds("Promise 10", "gets that version's record again: the share got by DECODING as for read",
                Boundaries6To10Test::everyPlaceIsRepaired);
        Sentences.holds("Promise 10", "and whose record of the file isn't SOUND with the BEST NUMBER",
                Boundaries6To10Test::whatIsRepaired);
        Sentences.holds("Promise 10", "the fingerprints and SEAL of the SEEN and SOUND record of that NUMBER "
                + "at the least place", Boundaries6To10Test::theLeastPlaceIsCopied);
        Sentences.holds("Promise 10", "The BEST NUMBER is 0: LOST", Boundaries6To10Test::nothingToRepair);
        Sentences.holds("Promise 10", "Answers how many servers got one",
                Boundaries6To10Test::howManyAreRepaired);
    }

    private static boolean readsTheWords(ShareGrid g, int k) {
        g.read(R);
        boolean same = true;
        for (int i = 0; i < k; i++) {
            same &= g.word(i) == words(k)[i];
        }
        return same;
    }

    /** A forged record at place K - 1 is decoded, one at place K is not, but where one before it fails. */
    private static void theLeastPlacesAreRead() {
        for (int k = 1; k <= 4; k++) {
            for (int n = k + 1; n <= 7; n++) {
                String which = "K " + k + ", N " + n;
                ShareGrid inside = written(k, n);
                forge(inside, k, n, k - 1, k);
                due(which + ": all are sound", inside.sound(V), n);
                Due.due(which + ": place K - 1 is decoded", !readsTheWords(inside, k));
                ShareGrid outside = written(k, n);
                forge(outside, k, n, k, 0);
                due(which + ": all are sound", outside.sound(V), n);
                Due.due(which + ": place K is not", readsTheWords(outside, k));
                outside.server(0, false, false);
                Due.due(which + ": place K is, without place 0", !readsTheWords(outside, k));
            }
        }
    }

    private static void nothingToRead() {
        ShareGrid g = created(2, 3);
        due("no version", g.read(R), LOST);
        for (int s = 0; s < 3; s++) {
            g.server(s, true, true);
        }
        g.write(W);
        due("nobody took it", g.read(R), LOST);
        allUp(g, true);
        g.write(W);
        for (int ups = 0; ups <= 3; ups++) {
            upJust(g, (1 << ups) - 1);
            due(ups + " up", g.read(R), ups < 2 ? LOST : 2);
        }
        g.wipe(0, 0);
        due("K records", g.read(R), 2);
        g.wipe(0, 2);
        due("one less", g.read(R), LOST);
    }

    private static void numbersThatAreRead() {
        ShareGrid g = created(1, 2);
        for (int number = 1; number <= 30; number++) {
            g.draft(0, -number);
            g.write(W);
            due("read", g.read(R), number);
            dueWords("number " + number, g, -number);
        }
        g.write(W);
        due("behind a full one", g.read(R), 30);
    }

    private static void wordsThatAreRead() {
        int[] words = {MIN, -1, MAX, 0};
        for (int k = 1; k <= 4; k++) {
            ShareGrid g = created(k, 4);
            draftAll(g, java.util.Arrays.copyOf(words, k));
            g.write(W);
            g.read(R);
            due("K " + k + ": the first", g.word(0), MIN);
            due("K " + k + ": the last", g.word(k - 1), words[k - 1]);
            due("K " + k + ": before the first", g.word(-1), NONE);
            due("K " + k + ": behind the last", g.word(k), NONE);
        }
    }

    private static void theLatestReadCounts() {
        ShareGrid g = written(2, 3);
        g.create(OTHER);
        draftAll(g, 5, 6);
        g.write(OTHER);
        g.read(R);
        dueWords("the first read", g, 11, 22);
        g.read(OTHER_R);
        dueWords("a later one", g, 5, 6);
        due("a refused one", g.read(W), REFUSED);
        dueWords("behind a refused one", g, 5, 6);
        allUp(g, false);
        due("a lost one", g.read(R), LOST);
        dueWords("behind a lost one", g, 5, 6);
        allUp(g, true);
        draftAll(g, 7, 8);
        g.write(W);
        g.repair(V);
        dueWords("behind draft, write and repair", g, 5, 6);
    }

    private static void wordsBeforeAnyRead() {
        ShareGrid g = new ShareGrid(2, 3);
        due("a new object", g.word(0), NONE);
        due("a refused read", g.read(R), REFUSED);
        due("behind it", g.word(0), NONE);
        g.create(W);
        due("a lost read", g.read(R), LOST);
        due("behind it", g.word(1), NONE);
        g.draft(0, 1);
        g.write(W);
        g.repair(V);
        due("behind draft, write and repair", g.word(0), NONE);
        g.read(R);
        due("behind a read", g.word(0), 1);
    }

    private static void wordsOutOfRange() {
        for (int k = 1; k <= 4; k++) {
            ShareGrid g = written(k, 4);
            g.read(R);
            for (int i : outside(0, k - 1)) {
                due("K " + k + ": word(" + i + ")", g.word(i), NONE);
            }
        }
    }

    private static void soundFromNoneToAll() {
        for (int n = 1; n <= 7; n++) {
            ShareGrid g = created(1, n);
            due("N " + n + ": no version", g.sound(V), 0);
            g.write(W);
            for (int wiped = 0; wiped < n; wiped++) {
                due("N " + n + ": but " + wiped, g.sound(V), n - wiped);
                g.wipe(0, wiped);
            }
            due("N " + n + ": none left", g.sound(V), 0);
            g.write(W);
            for (int ups = 0; ups <= n; ups++) {
                upJust(g, (1 << ups) - 1);
                due("N " + n + ": " + ups + " up", g.sound(V), ups);
            }
        }
    }

    /** Every server with another NUMBER, the first, .. the last that there can be. */
    private static void soundOfAnyNumber() {
        ShareGrid g = created(4, 7);
        for (int number = 1; number <= 30; number++) {
            g.write(W);
            if (number < 7) {
                g.server(number - 1, true, true);
            }
        }
        due("the first number", g.share(0, 0, 1), 1);
        due("the last number", g.share(0, 6, 1), 30);
        due("seven numbers", g.sound(V), 7);
        due("none is best", g.best(V), 0);
    }

    private static void bestFrom0To30() {
        ShareGrid g = created(2, 3);
        due("no version", g.best(V), 0);
        for (int number = 1; number <= 30; number++) {
            g.write(W);
            due("a version", g.best(V), number);
        }
        g.write(W);
        due("behind a full one", g.best(V), 30);
        g.wipe(0, 1);
        due("just K of it", g.best(V), 30);
        g.tamper(0, 2, 1, 30 ^ 31);
        due("one less, and one with the number 31", g.best(V), 0);
    }

    private static void whoIsRepaired() {
        for (int state = 0; state < 4; state++) {
            boolean up = (state & 1) != 0;
            boolean stuck = (state & 2) != 0;
            for (int s : new int[] {0, 3, 6}) {
                ShareGrid g = written(2, 7);
                g.wipe(0, s);
                g.server(s, up, stuck);
                boolean takes = up && !stuck;
                due("state " + state + " at " + s, g.repair(V), takes ? 1 : 0);
                due("state " + state + ": record at " + s, g.share(0, s, 1), takes ? 1 : NONE);
            }
        }
    }

    /** No record, a tampered one of each kind, and SOUND ones of a former and of a later NUMBER. */
    private static void whatIsRepaired() {
        ShareGrid g = written(3, 7);
        due("all are sound", g.repair(V), 0);
        g.wipe(0, 6);
        due("no record", g.repair(V), 1);
        for (int what = 0; what <= 9; what++) {
            g.tamper(0, 6, what, MIN);
            due("tampered " + what, g.repair(V), 1);
            due("sound again", g.sound(V), 7);
        }
        g.picture(0, 6);
        g.write(W);
        g.fallBack(0, 6);
        due("a former number", g.repair(V), 1);
        due("it has the later", g.share(0, 6, 1), 2);
        for (int s = 0; s < 5; s++) {
            g.server(s, true, true);
        }
        g.write(W);
        due("two of a later number, too few", g.repair(V), 2);
        due("they have the former", g.share(0, 6, 1), 2);
        due("it is the best", g.best(V), 2);
    }

    /**
     * The last server's new record has the forged fingerprint of its place if the record at the least
     * place is the forged one, and not if the next one is: the share that fits then makes it SOUND.
     */
    private static void theLeastPlaceIsCopied() {
        for (int k = 1; k <= 4; k++) {
            for (int forgedPlace = 0; forgedPlace < 2; forgedPlace++) {
                String which = "K " + k + ", forged at " + forgedPlace;
                ShareGrid g = written(k, 7);
                int trueShare = (int) g.share(0, 6, 0);
                int forged = forge(g, k, 7, forgedPlace, 6);
                g.wipe(0, 6);
                due(which + ": repair", g.repair(V), 1);
                int fitting = forgedPlace == 0 ? Terms.firstOfMix(106, forged) : trueShare;
                g.tamper(0, 6, 0, (int) g.share(0, 6, 0) ^ fitting);
                due(which + ": the share that fits", g.sound(V), 7);
            }
        }
    }

    /** As many records wiped as can be, so that the least place that is left is not place 0. */
    private static void everyPlaceIsRepaired() {
        for (int k = 1; k <= 4; k++) {
            for (int n = k; n <= 7; n++) {
                ShareGrid g = written(k, n);
                long[] shares = new long[n];
                for (int s = 0; s < n; s++) {
                    shares[s] = g.share(0, s, 0);
                }
                long seal = g.share(0, 0, 2);
                for (int s = 0; s < n - k; s++) {
                    g.wipe(0, s);
                }
                String which = "K " + k + ", N " + n;
                due(which + ": repair", g.repair(V), n - k);
                for (int s = 0; s < n; s++) {
                    due(which + ": share at " + s, g.share(0, s, 0), shares[s]);
                    due(which + ": seal at " + s, g.share(0, s, 2), seal);
                }
                due(which + ": all fingerprints fit", g.sound(V), n);
            }
        }
    }

    private static void nothingToRepair() {
        ShareGrid g = created(2, 3);
        due("no version", g.repair(V), LOST);
        g.write(W);
        for (int ups = 0; ups <= 3; ups++) {
            upJust(g, (1 << ups) - 1);
            due(ups + " up", g.repair(V), ups < 2 ? LOST : 0);
        }
        g.wipe(0, 0);
        g.tamper(0, 1, 0, 1);
        due("one sound record", g.repair(V), LOST);
        g.tamper(0, 1, 0, 1);
        due("two", g.repair(V), 1);
    }

    /** None, one, .. as many as can be lost. */
    private static void howManyAreRepaired() {
        for (int k = 1; k <= 4; k++) {
            for (int wiped = 0; wiped <= 7; wiped++) {
                ShareGrid g = written(k, 7);
                for (int s = 0; s < wiped; s++) {
                    g.wipe(0, s);
                }
                due("K " + k + ", " + wiped + " wiped", g.repair(V), wiped > 7 - k ? LOST : wiped);
            }
        }
    }
}
