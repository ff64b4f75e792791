/** What the tests of the promises have in common: the answers, some keys, and grids to begin with. */
abstract class TestBase {
    static final int REFUSED = -1;
    static final int FULL = -2;
    static final int LOST = -3;
    static final long NONE = -1000000000000L;
    static final int MIN = Integer.MIN_VALUE;
    static final int MAX = Integer.MAX_VALUE;

    static final int W = 5;
    static final int R = Terms.readKey(W);
    static final int V = Terms.verifyKey(W);
    static final int OTHER = -77;
    static final int OTHER_R = Terms.readKey(OTHER);
    static final int OTHER_V = Terms.verifyKey(OTHER);

    static void due(String what, long got, long want) {
        Due.due(what, got, want);
    }

    /** The first numbers outside first .. last at each end, and the least and the greatest int. */
    static int[] outside(int first, int last) {
        return new int[] {first - 1, last + 1, MIN, MAX};
    }

    /** A grid with one file under W, without versions. */
    static ShareGrid created(int needed, int servers) {
        ShareGrid g = new ShareGrid(needed, servers);
        g.create(W);
        return g;
    }

    /** A grid with one file under W and one version with the words 11, 22, .. of it. */
    static ShareGrid written(int needed, int servers) {
        ShareGrid g = created(needed, servers);
        draftAll(g, words(needed));
        g.write(W);
        return g;
    }

    static int[] words(int needed) {
        int[] words = new int[needed];
        for (int i = 0; i < needed; i++) {
            words[i] = 11 * (i + 1);
        }
        return words;
    }

    static void draftAll(ShareGrid g, int... words) {
        for (int i = 0; i < words.length; i++) {
            g.draft(i, words[i]);
        }
    }

    /** The words READ are these. */
    static void dueWords(String when, ShareGrid g, int... words) {
        for (int i = 0; i < words.length; i++) {
            due(when + ": word " + i, g.word(i), words[i]);
        }
    }

    static void allUp(ShareGrid g, boolean up) {
        upJust(g, up ? -1 : 0);
    }

    /** Server s is UP if bit s of the set is 1, and none is STUCK. */
    static void upJust(ShareGrid g, int set) {
        for (int s = 0; s < g.count(3); s++) {
            g.server(s, (set >> s & 1) != 0, false);
        }
    }

    /**
     * Makes of the record that written() left at place s a SOUND one with a share and a fingerprint of
     * place q that nobody wrote, so that it shows where it is used; answers that fingerprint.
     */
    static int forge(ShareGrid g, int needed, int servers, int s, int q) {
        int[] prints = Terms.fingerprints(Terms.cipher(R, 1, words(needed)), servers);
        int[] forged = prints.clone();
        forged[s] = Terms.mix((int) g.share(0, s, 0) ^ -1, s + 100);
        forged[q] = Terms.fingerprintForRoot(forged, 1, q, Terms.root(prints, 1));
        g.tamper(0, s, 0, -1);
        g.tamper(0, s, 3 + s, prints[s] ^ forged[s]);
        g.tamper(0, s, 3 + q, prints[q] ^ forged[q]);
        return forged[q];
    }
}
